abbrev rm_X4_feed : Room := { frames := 0, cells := 0, slots := 0, locals := 0 }
set_option maxRecDepth 100000 in
set_option maxHeartbeats 4000000 in
theorem s_X4_feed_0 {G : zCx} {F : zFr} {I : zStore} {post : Option Value → zStore → Prop}{x : Int64} (hG : zOK G "LineLearnerModel" cX4_feed 6) (hR : zRoom G rm_X4_feed) (hE : zRetI G F cX4_feed 0 0 post) (hL : zLayM F) (hr : zRg I)
    (k1 : zW G F 0 0 (zup I 110 0 0) [(0, .ref (F.1 110)), (1, .long x), (3, .int (zI 0)), (4, .int (zI 56))] [] 11) :
    zW G F 0 0 I [(0, .ref (F.1 110)), (1, .long x)] [] 0 := by
  refine z_aload_n 0 hG dX4_feed_0 rfl rfl ?_
  refine z_iconst 0 hG dX4_feed_1 ?_
  refine z_putI hG zcl4 (zltM hL (by decide)) (zl110 hL) 0 (by decide) (ki := 0) rfl rfl kw677 rfl rfl dX4_feed_2 ?_
  refine z_iconst 0 hG dX4_feed_5 ?_
  refine z_istore_n (lv' := [(3, .int (zI 0)), (0, .ref (F.1 110)), (1, .long x)]) hG dX4_feed_6 rfl (by decide) rfl ?_
  refine z_bipush 56 hG dX4_feed_7 (by decide) ?_
  refine z_istore (lv' := [(4, .int (zI 56)), (3, .int (zI 0)), (0, .ref (F.1 110)), (1, .long x)]) hG dX4_feed_9 (by decide) rfl ?_
  refine z_perm (lv' := [(0, .ref (F.1 110)), (1, .long x), (3, .int (zI 0)), (4, .int (zI 56))]) [2, 3, 1, 0] rfl ?_
  exact k1

set_option maxRecDepth 100000 in
set_option maxHeartbeats 4000000 in
theorem s_X4_feed_11 {G : zCx} {F : zFr} {I : zStore} {post : Option Value → zStore → Prop}{x : Int64} {many sh : Int} (hG : zOK G "LineLearnerModel" cX4_feed 6) (hR : zRoom G rm_X4_feed) (hE : zRetI G F cX4_feed 0 0 post) (hL : zLayM F) (hr : zRg I) (h1 : -8 ≤ sh ∧ sh ≤ 56)
    (k1 : (sh < 0) → zW G F 0 0 I [(0, .ref (F.1 110)), (1, .long x), (3, .int (zI many))] [] 70)
    (k2 : (0 ≤ sh) → ((zl2i ((zushr x sh) &&& (zJ 255))) = 0) → ((zl2i ((zushr x sh) &&& (zJ 255))) ≠ 0) → zW G F 0 0 I [(0, .ref (F.1 110)), (1, .long x), (3, .int (zI (many + 1))), (4, .int (zI (sh + (-8))))] [] 11)
    (k3 : (0 ≤ sh) → ((zl2i ((zushr x sh) &&& (zJ 255))) = 0) → ((zl2i ((zushr x sh) &&& (zJ 255))) = 0) → zW G F 0 0 I [(0, .ref (F.1 110)), (1, .long x), (3, .int (zI (many + 0))), (4, .int (zI (sh + (-8))))] [] 11)
    (k4 : (0 ≤ sh) → ((zl2i ((zushr x sh) &&& (zJ 255))) ≠ 0) → ((zl2i ((zushr x sh) &&& (zJ 255))) < 32) → ((zl2i ((zushr x sh) &&& (zJ 255))) ≠ 0) → zW G F 0 0 (zup I 110 0 1) [(0, .ref (F.1 110)), (1, .long x), (3, .int (zI (many + 1))), (4, .int (zI (sh + (-8))))] [] 11)
    (k5 : (0 ≤ sh) → ((zl2i ((zushr x sh) &&& (zJ 255))) ≠ 0) → ((zl2i ((zushr x sh) &&& (zJ 255))) < 32) → ((zl2i ((zushr x sh) &&& (zJ 255))) = 0) → zW G F 0 0 (zup I 110 0 1) [(0, .ref (F.1 110)), (1, .long x), (3, .int (zI (many + 0))), (4, .int (zI (sh + (-8))))] [] 11)
    (k6 : (0 ≤ sh) → ((zl2i ((zushr x sh) &&& (zJ 255))) ≠ 0) → (32 ≤ (zl2i ((zushr x sh) &&& (zJ 255)))) → ((zl2i ((zushr x sh) &&& (zJ 255))) ≤ 126) → ((zl2i ((zushr x sh) &&& (zJ 255))) ≠ 0) → zW G F 0 0 I [(0, .ref (F.1 110)), (1, .long x), (3, .int (zI (many + 1))), (4, .int (zI (sh + (-8))))] [] 11)
    (k7 : (0 ≤ sh) → ((zl2i ((zushr x sh) &&& (zJ 255))) ≠ 0) → (32 ≤ (zl2i ((zushr x sh) &&& (zJ 255)))) → ((zl2i ((zushr x sh) &&& (zJ 255))) ≤ 126) → ((zl2i ((zushr x sh) &&& (zJ 255))) = 0) → zW G F 0 0 I [(0, .ref (F.1 110)), (1, .long x), (3, .int (zI (many + 0))), (4, .int (zI (sh + (-8))))] [] 11)
    (k8 : (0 ≤ sh) → ((zl2i ((zushr x sh) &&& (zJ 255))) ≠ 0) → (32 ≤ (zl2i ((zushr x sh) &&& (zJ 255)))) → (126 < (zl2i ((zushr x sh) &&& (zJ 255)))) → ((zl2i ((zushr x sh) &&& (zJ 255))) ≠ 0) → zW G F 0 0 (zup I 110 0 1) [(0, .ref (F.1 110)), (1, .long x), (3, .int (zI (many + 1))), (4, .int (zI (sh + (-8))))] [] 11)
    (k9 : (0 ≤ sh) → ((zl2i ((zushr x sh) &&& (zJ 255))) ≠ 0) → (32 ≤ (zl2i ((zushr x sh) &&& (zJ 255)))) → (126 < (zl2i ((zushr x sh) &&& (zJ 255)))) → ((zl2i ((zushr x sh) &&& (zJ 255))) = 0) → zW G F 0 0 (zup I 110 0 1) [(0, .ref (F.1 110)), (1, .long x), (3, .int (zI (many + 0))), (4, .int (zI (sh + (-8))))] [] 11) :
    zW G F 0 0 I [(0, .ref (F.1 110)), (1, .long x), (3, .int (zI many)), (4, .int (zI sh))] [] 11 := by
  refine z_iload 3 hG dX4_feed_11 rfl ?_
  refine z_if_lt (tgt := 70) hG dX4_feed_13 (by decide) (by omega) (fun c13 => ?_) (fun c13 => ?_)
  · skip
    refine z_perm (lv' := [(0, .ref (F.1 110)), (1, .long x), (3, .int (zI many))]) [0, 1, 2] rfl ?_
    exact k1 c13
  · skip
    refine z_lload_n 1 hG dX4_feed_16 rfl rfl ?_
    refine z_iload 3 hG dX4_feed_17 rfl ?_
    refine z_lushr hG dX4_feed_19 ?_
    refine z_ldc2 255 hG kw767 (by decide) dX4_feed_20 ?_
    refine z_land hG dX4_feed_23 ?_
    refine z_l2i hG dX4_feed_24 ?_
    refine z_istore (lv' := [(5, .int (zI (zl2i ((zushr x sh) &&& (zJ 255))))), (0, .ref (F.1 110)), (1, .long x), (3, .int (zI many)), (4, .int (zI sh))]) hG dX4_feed_25 (by decide) rfl ?_
    have hb5 : -2147483648 ≤ zl2i ((zushr x sh) &&& (zJ 255)) ∧ zl2i ((zushr x sh) &&& (zJ 255)) < 2147483648 := zI_rng _
    refine z_iload 0 hG dX4_feed_27 rfl ?_
    refine z_if_eq (tgt := 51) hG dX4_feed_29 (by decide) (by omega) (fun c29 => ?_) (fun c29 => ?_)
    · skip
      refine z_iload_n 3 hG dX4_feed_51 rfl rfl ?_
      refine z_iload 0 hG dX4_feed_52 rfl ?_
      refine z_if_ne (tgt := 61) hG dX4_feed_54 (by decide) (by omega) (fun c54 => ?_) (fun c54 => ?_)
      · skip
        refine z_iconst 1 hG dX4_feed_61 ?_
        refine z_iadd hG dX4_feed_62 ?_
        refine z_istore_n (lv' := [(3, .int (zI (many + 1))), (5, .int (zI (zl2i ((zushr x sh) &&& (zJ 255))))), (0, .ref (F.1 110)), (1, .long x), (4, .int (zI sh))]) hG dX4_feed_63 rfl (by decide) rfl ?_
        refine z_iinc (lv' := [(4, .int (zI (sh + (-8)))), (3, .int (zI (many + 1))), (5, .int (zI (zl2i ((zushr x sh) &&& (zJ 255))))), (0, .ref (F.1 110)), (1, .long x)]) 4 hG dX4_feed_64 rfl (by decide) rfl ?_
        refine z_goto (tgt := 11) hG dX4_feed_67 (by decide) ?_
        refine z_perm (lv' := [(0, .ref (F.1 110)), (1, .long x), (3, .int (zI (many + 1))), (4, .int (zI (sh + (-8))))]) [3, 4, 1, 0] rfl ?_
        exact k2 c13 c29 c54
      · skip
        refine z_iconst 0 hG dX4_feed_57 ?_
        refine z_goto (tgt := 62) hG dX4_feed_58 (by decide) ?_
        refine z_iadd hG dX4_feed_62 ?_
        refine z_istore_n (lv' := [(3, .int (zI (many + 0))), (5, .int (zI (zl2i ((zushr x sh) &&& (zJ 255))))), (0, .ref (F.1 110)), (1, .long x), (4, .int (zI sh))]) hG dX4_feed_63 rfl (by decide) rfl ?_
        refine z_iinc (lv' := [(4, .int (zI (sh + (-8)))), (3, .int (zI (many + 0))), (5, .int (zI (zl2i ((zushr x sh) &&& (zJ 255))))), (0, .ref (F.1 110)), (1, .long x)]) 4 hG dX4_feed_64 rfl (by decide) rfl ?_
        refine z_goto (tgt := 11) hG dX4_feed_67 (by decide) ?_
        refine z_perm (lv' := [(0, .ref (F.1 110)), (1, .long x), (3, .int (zI (many + 0))), (4, .int (zI (sh + (-8))))]) [3, 4, 1, 0] rfl ?_
        exact k3 c13 c29 c54
    · skip
      refine z_iload 0 hG dX4_feed_32 rfl ?_
      refine z_bipush 32 hG dX4_feed_34 (by decide) ?_
      refine z_icmp_lt (tgt := 46) hG dX4_feed_36 (by decide) (by omega) (by decide) (fun c36 => ?_) (fun c36 => ?_)
      · skip
        refine z_aload_n 1 hG dX4_feed_46 rfl rfl ?_
        refine z_iconst 1 hG dX4_feed_47 ?_
        refine z_putI hG zcl4 (zltM hL (by decide)) (zl110 hL) 0 (by decide) (ki := 0) rfl rfl kw677 rfl rfl dX4_feed_48 ?_
        refine z_iload_n 3 hG dX4_feed_51 rfl rfl ?_
        refine z_iload 0 hG dX4_feed_52 rfl ?_
        refine z_if_ne (tgt := 61) hG dX4_feed_54 (by decide) (by omega) (fun c54 => ?_) (fun c54 => ?_)
        · skip
          refine z_iconst 1 hG dX4_feed_61 ?_
          refine z_iadd hG dX4_feed_62 ?_
          refine z_istore_n (lv' := [(3, .int (zI (many + 1))), (5, .int (zI (zl2i ((zushr x sh) &&& (zJ 255))))), (0, .ref (F.1 110)), (1, .long x), (4, .int (zI sh))]) hG dX4_feed_63 rfl (by decide) rfl ?_
          refine z_iinc (lv' := [(4, .int (zI (sh + (-8)))), (3, .int (zI (many + 1))), (5, .int (zI (zl2i ((zushr x sh) &&& (zJ 255))))), (0, .ref (F.1 110)), (1, .long x)]) 4 hG dX4_feed_64 rfl (by decide) rfl ?_
          refine z_goto (tgt := 11) hG dX4_feed_67 (by decide) ?_
          refine z_perm (lv' := [(0, .ref (F.1 110)), (1, .long x), (3, .int (zI (many + 1))), (4, .int (zI (sh + (-8))))]) [3, 4, 1, 0] rfl ?_
          exact k4 c13 c29 c36 c54
        · skip
          refine z_iconst 0 hG dX4_feed_57 ?_
          refine z_goto (tgt := 62) hG dX4_feed_58 (by decide) ?_
          refine z_iadd hG dX4_feed_62 ?_
          refine z_istore_n (lv' := [(3, .int (zI (many + 0))), (5, .int (zI (zl2i ((zushr x sh) &&& (zJ 255))))), (0, .ref (F.1 110)), (1, .long x), (4, .int (zI sh))]) hG dX4_feed_63 rfl (by decide) rfl ?_
          refine z_iinc (lv' := [(4, .int (zI (sh + (-8)))), (3, .int (zI (many + 0))), (5, .int (zI (zl2i ((zushr x sh) &&& (zJ 255))))), (0, .ref (F.1 110)), (1, .long x)]) 4 hG dX4_feed_64 rfl (by decide) rfl ?_
          refine z_goto (tgt := 11) hG dX4_feed_67 (by decide) ?_
          refine z_perm (lv' := [(0, .ref (F.1 110)), (1, .long x), (3, .int (zI (many + 0))), (4, .int (zI (sh + (-8))))]) [3, 4, 1, 0] rfl ?_
          exact k5 c13 c29 c36 c54
      · skip
        refine z_iload 0 hG dX4_feed_39 rfl ?_
        refine z_bipush 126 hG dX4_feed_41 (by decide) ?_
        refine z_icmp_le (tgt := 51) hG dX4_feed_43 (by decide) (by omega) (by decide) (fun c43 => ?_) (fun c43 => ?_)
        · skip
          refine z_iload_n 3 hG dX4_feed_51 rfl rfl ?_
          refine z_iload 0 hG dX4_feed_52 rfl ?_
          refine z_if_ne (tgt := 61) hG dX4_feed_54 (by decide) (by omega) (fun c54 => ?_) (fun c54 => ?_)
          · skip
            refine z_iconst 1 hG dX4_feed_61 ?_
            refine z_iadd hG dX4_feed_62 ?_
            refine z_istore_n (lv' := [(3, .int (zI (many + 1))), (5, .int (zI (zl2i ((zushr x sh) &&& (zJ 255))))), (0, .ref (F.1 110)), (1, .long x), (4, .int (zI sh))]) hG dX4_feed_63 rfl (by decide) rfl ?_
            refine z_iinc (lv' := [(4, .int (zI (sh + (-8)))), (3, .int (zI (many + 1))), (5, .int (zI (zl2i ((zushr x sh) &&& (zJ 255))))), (0, .ref (F.1 110)), (1, .long x)]) 4 hG dX4_feed_64 rfl (by decide) rfl ?_
            refine z_goto (tgt := 11) hG dX4_feed_67 (by decide) ?_
            refine z_perm (lv' := [(0, .ref (F.1 110)), (1, .long x), (3, .int (zI (many + 1))), (4, .int (zI (sh + (-8))))]) [3, 4, 1, 0] rfl ?_
            exact k6 c13 c29 c36 c43 c54
          · skip
            refine z_iconst 0 hG dX4_feed_57 ?_
            refine z_goto (tgt := 62) hG dX4_feed_58 (by decide) ?_
            refine z_iadd hG dX4_feed_62 ?_
            refine z_istore_n (lv' := [(3, .int (zI (many + 0))), (5, .int (zI (zl2i ((zushr x sh) &&& (zJ 255))))), (0, .ref (F.1 110)), (1, .long x), (4, .int (zI sh))]) hG dX4_feed_63 rfl (by decide) rfl ?_
            refine z_iinc (lv' := [(4, .int (zI (sh + (-8)))), (3, .int (zI (many + 0))), (5, .int (zI (zl2i ((zushr x sh) &&& (zJ 255))))), (0, .ref (F.1 110)), (1, .long x)]) 4 hG dX4_feed_64 rfl (by decide) rfl ?_
            refine z_goto (tgt := 11) hG dX4_feed_67 (by decide) ?_
            refine z_perm (lv' := [(0, .ref (F.1 110)), (1, .long x), (3, .int (zI (many + 0))), (4, .int (zI (sh + (-8))))]) [3, 4, 1, 0] rfl ?_
            exact k7 c13 c29 c36 c43 c54
        · skip
          refine z_aload_n 1 hG dX4_feed_46 rfl rfl ?_
          refine z_iconst 1 hG dX4_feed_47 ?_
          refine z_putI hG zcl4 (zltM hL (by decide)) (zl110 hL) 0 (by decide) (ki := 0) rfl rfl kw677 rfl rfl dX4_feed_48 ?_
          refine z_iload_n 3 hG dX4_feed_51 rfl rfl ?_
          refine z_iload 0 hG dX4_feed_52 rfl ?_
          refine z_if_ne (tgt := 61) hG dX4_feed_54 (by decide) (by omega) (fun c54 => ?_) (fun c54 => ?_)
          · skip
            refine z_iconst 1 hG dX4_feed_61 ?_
            refine z_iadd hG dX4_feed_62 ?_
            refine z_istore_n (lv' := [(3, .int (zI (many + 1))), (5, .int (zI (zl2i ((zushr x sh) &&& (zJ 255))))), (0, .ref (F.1 110)), (1, .long x), (4, .int (zI sh))]) hG dX4_feed_63 rfl (by decide) rfl ?_
            refine z_iinc (lv' := [(4, .int (zI (sh + (-8)))), (3, .int (zI (many + 1))), (5, .int (zI (zl2i ((zushr x sh) &&& (zJ 255))))), (0, .ref (F.1 110)), (1, .long x)]) 4 hG dX4_feed_64 rfl (by decide) rfl ?_
            refine z_goto (tgt := 11) hG dX4_feed_67 (by decide) ?_
            refine z_perm (lv' := [(0, .ref (F.1 110)), (1, .long x), (3, .int (zI (many + 1))), (4, .int (zI (sh + (-8))))]) [3, 4, 1, 0] rfl ?_
            exact k8 c13 c29 c36 c43 c54
          · skip
            refine z_iconst 0 hG dX4_feed_57 ?_
            refine z_goto (tgt := 62) hG dX4_feed_58 (by decide) ?_
            refine z_iadd hG dX4_feed_62 ?_
            refine z_istore_n (lv' := [(3, .int (zI (many + 0))), (5, .int (zI (zl2i ((zushr x sh) &&& (zJ 255))))), (0, .ref (F.1 110)), (1, .long x), (4, .int (zI sh))]) hG dX4_feed_63 rfl (by decide) rfl ?_
            refine z_iinc (lv' := [(4, .int (zI (sh + (-8)))), (3, .int (zI (many + 0))), (5, .int (zI (zl2i ((zushr x sh) &&& (zJ 255))))), (0, .ref (F.1 110)), (1, .long x)]) 4 hG dX4_feed_64 rfl (by decide) rfl ?_
            refine z_goto (tgt := 11) hG dX4_feed_67 (by decide) ?_
            refine z_perm (lv' := [(0, .ref (F.1 110)), (1, .long x), (3, .int (zI (many + 0))), (4, .int (zI (sh + (-8))))]) [3, 4, 1, 0] rfl ?_
            exact k9 c13 c29 c36 c43 c54

set_option maxRecDepth 100000 in
set_option maxHeartbeats 4000000 in
theorem s_X4_feed_70 {G : zCx} {F : zFr} {I : zStore} {post : Option Value → zStore → Prop}{x : Int64} {many : Int} (hG : zOK G "LineLearnerModel" cX4_feed 6) (hR : zRoom G rm_X4_feed) (hE : zRetI G F cX4_feed 0 0 post) (hL : zLayM F) (hr : zRg I) (h1 : 0 ≤ many ∧ many ≤ 8) (h2 : 0 ≤ I 110 1 ∧ I 110 1 ≤ 30)
    (k1 : ((I 110 0) ≠ 0) → ((I 110 0) = 0) → zW G F 0 0 I [(0, .ref (F.1 110)), (1, .long x), (4, .int (zI 56))] [] 106)
    (k2 : ((I 110 0) ≠ 0) → ((I 110 0) ≠ 0) → post (some (.int (zI 0))) I)
    (k3 : ((I 110 0) = 0) → (((I 110 1) + many) ≤ 30) → ((I 110 0) = 0) → zW G F 0 0 I [(0, .ref (F.1 110)), (1, .long x), (4, .int (zI 56))] [] 106)
    (k4 : ((I 110 0) = 0) → (((I 110 1) + many) ≤ 30) → ((I 110 0) ≠ 0) → post (some (.int (zI 0))) I)
    (k5 : ((I 110 0) = 0) → (30 < ((I 110 1) + many)) → ((2 : Int) ≠ 0) → post (some (.int (zI 0))) (zup I 110 0 2)) :
    zW G F 0 0 I [(0, .ref (F.1 110)), (1, .long x), (3, .int (zI many))] [] 70 := by
  refine z_aload_n 0 hG dX4_feed_70 rfl rfl ?_
  refine z_getI (v := I 110 0) hG zcl4 (zltM hL (by decide)) (zl110 hL) 0 (by decide) rfl rfl rfl kw677 dX4_feed_71 ?_
  refine z_if_ne (tgt := 93) hG dX4_feed_74 (by decide) (hr _ _) (fun c74 => ?_) (fun c74 => ?_)
  · skip
    refine z_aload_n 0 hG dX4_feed_93 rfl rfl ?_
    refine z_getI (v := I 110 0) hG zcl4 (zltM hL (by decide)) (zl110 hL) 0 (by decide) rfl rfl rfl kw677 dX4_feed_94 ?_
    refine z_if_eq (tgt := 102) hG dX4_feed_97 (by decide) (hr _ _) (fun c97 => ?_) (fun c97 => ?_)
    · skip
      refine z_bipush 56 hG dX4_feed_102 (by decide) ?_
      refine z_istore (lv' := [(4, .int (zI 56)), (0, .ref (F.1 110)), (1, .long x), (3, .int (zI many))]) hG dX4_feed_104 (by decide) rfl ?_
      refine z_perm (lv' := [(0, .ref (F.1 110)), (1, .long x), (4, .int (zI 56))]) [1, 2, 0] rfl ?_
      exact k1 c74 c97
    · skip
      refine z_iconst 0 hG dX4_feed_100 ?_
      exact hE _ _ _ _ dX4_feed_101 (k2 c74 c97)
  · skip
    refine z_aload_n 0 hG dX4_feed_77 rfl rfl ?_
    refine z_getI (v := I 110 1) hG zcl4 (zltM hL (by decide)) (zl110 hL) 1 (by decide) rfl rfl rfl kw678 dX4_feed_78 ?_
    refine z_iload_n 2 hG dX4_feed_81 rfl rfl ?_
    refine z_iadd hG dX4_feed_82 ?_
    refine z_bipush 30 hG dX4_feed_83 (by decide) ?_
    refine z_icmp_le (tgt := 93) hG dX4_feed_85 (by decide) (by omega) (by decide) (fun c85 => ?_) (fun c85 => ?_)
    · skip
      refine z_aload_n 0 hG dX4_feed_93 rfl rfl ?_
      refine z_getI (v := I 110 0) hG zcl4 (zltM hL (by decide)) (zl110 hL) 0 (by decide) rfl rfl rfl kw677 dX4_feed_94 ?_
      refine z_if_eq (tgt := 102) hG dX4_feed_97 (by decide) (hr _ _) (fun c97 => ?_) (fun c97 => ?_)
      · skip
        refine z_bipush 56 hG dX4_feed_102 (by decide) ?_
        refine z_istore (lv' := [(4, .int (zI 56)), (0, .ref (F.1 110)), (1, .long x), (3, .int (zI many))]) hG dX4_feed_104 (by decide) rfl ?_
        refine z_perm (lv' := [(0, .ref (F.1 110)), (1, .long x), (4, .int (zI 56))]) [1, 2, 0] rfl ?_
        exact k3 c74 c85 c97
      · skip
        refine z_iconst 0 hG dX4_feed_100 ?_
        exact hE _ _ _ _ dX4_feed_101 (k4 c74 c85 c97)
    · skip
      refine z_aload_n 0 hG dX4_feed_88 rfl rfl ?_
      refine z_iconst 2 hG dX4_feed_89 ?_
      refine z_putI hG zcl4 (zltM hL (by decide)) (zl110 hL) 0 (by decide) (ki := 0) rfl rfl kw677 rfl rfl dX4_feed_90 ?_
      refine z_aload_n 0 hG dX4_feed_93 rfl rfl ?_
      refine z_getI (v := 2) hG zcl4 (zltM hL (by decide)) (zl110 hL) 0 (by decide) rfl rfl (zup_at _ _ _ _) kw677 dX4_feed_94 ?_
      refine z_if_eq (tgt := 102) hG dX4_feed_97 (by decide) (by decide) (fun c97 => ?_) (fun c97 => ?_)
      · skip
        exact absurd c97 (by decide)
      · skip
        refine z_iconst 0 hG dX4_feed_100 ?_
        exact hE _ _ _ _ dX4_feed_101 (k5 c74 c85 c97)

set_option maxRecDepth 100000 in
set_option maxHeartbeats 4000000 in
theorem s_X4_feed_106 {G : zCx} {F : zFr} {I : zStore} {post : Option Value → zStore → Prop}{x : Int64} {sh : Int} (hG : zOK G "LineLearnerModel" cX4_feed 6) (hR : zRoom G rm_X4_feed) (hE : zRetI G F cX4_feed 0 0 post) (hL : zLayM F) (hr : zRg I) (h1 : -8 ≤ sh ∧ sh ≤ 56) (h2 : 0 ≤ I 110 1 ∧ I 110 1 ≤ 30) (g1 : ∀ _u : Unit, 0 ≤ sh → zl2i ((zushr x sh) &&& (zJ 255)) ≠ 0 → I 110 1 < 30)
    (k1 : (sh < 0) → post (some (.int (zI (I 110 1)))) I)
    (k2 : (0 ≤ sh) → ((zl2i ((zushr x sh) &&& (zJ 255))) ≠ 0) → zW G F 0 0 (zup (zup I 111 (I 110 1) (zl2i ((zushr x sh) &&& (zJ 255)))) 110 1 ((I 110 1) + 1)) [(0, .ref (F.1 110)), (1, .long x), (4, .int (zI (sh + (-8))))] [] 106)
    (k3 : (0 ≤ sh) → ((zl2i ((zushr x sh) &&& (zJ 255))) = 0) → zW G F 0 0 I [(0, .ref (F.1 110)), (1, .long x), (4, .int (zI (sh + (-8))))] [] 106) :
    zW G F 0 0 I [(0, .ref (F.1 110)), (1, .long x), (4, .int (zI sh))] [] 106 := by
  refine z_iload 2 hG dX4_feed_106 rfl ?_
  refine z_if_lt (tgt := 157) hG dX4_feed_108 (by decide) (by omega) (fun c108 => ?_) (fun c108 => ?_)
  · skip
    refine z_aload_n 0 hG dX4_feed_157 rfl rfl ?_
    refine z_getI (v := I 110 1) hG zcl4 (zltM hL (by decide)) (zl110 hL) 1 (by decide) rfl rfl rfl kw678 dX4_feed_158 ?_
    exact hE _ _ _ _ dX4_feed_161 (k1 c108)
  · skip
    refine z_lload_n 1 hG dX4_feed_111 rfl rfl ?_
    refine z_iload 2 hG dX4_feed_112 rfl ?_
    refine z_lushr hG dX4_feed_114 ?_
    refine z_ldc2 255 hG kw767 (by decide) dX4_feed_115 ?_
    refine z_land hG dX4_feed_118 ?_
    refine z_l2i hG dX4_feed_119 ?_
    refine z_istore (lv' := [(5, .int (zI (zl2i ((zushr x sh) &&& (zJ 255))))), (0, .ref (F.1 110)), (1, .long x), (4, .int (zI sh))]) hG dX4_feed_120 (by decide) rfl ?_
    have hb5 : -2147483648 ≤ zl2i ((zushr x sh) &&& (zJ 255)) ∧ zl2i ((zushr x sh) &&& (zJ 255)) < 2147483648 := zI_rng _
    refine z_iload 0 hG dX4_feed_122 rfl ?_
    refine z_if_ne (tgt := 130) hG dX4_feed_124 (by decide) (by omega) (fun c124 => ?_) (fun c124 => ?_)
    · skip
      have q9 := g1 () c108 c124
      refine z_aload_n 1 hG dX4_feed_130 rfl rfl ?_
      refine z_getR (t := 111) hG zcl4 (zltM hL (by decide)) (zl110 hL) 2 (by decide) rfl kw679 dX4_feed_131 ?_
      refine z_aload_n 1 hG dX4_feed_134 rfl rfl ?_
      refine z_getI (v := I 110 1) hG zcl4 (zltM hL (by decide)) (zl110 hL) 1 (by decide) rfl rfl rfl kw678 dX4_feed_135 ?_
      refine z_iload 0 hG dX4_feed_138 rfl ?_
      refine z_iast hG (zltM hL (by decide)) (zl111 hL) (by decide) (by omega) dX4_feed_140 ?_
      refine z_aload_n 1 hG dX4_feed_141 rfl rfl ?_
      refine z_dup hG dX4_feed_142 rfl ?_
      refine z_getI (v := I 110 1) hG zcl4 (zltM hL (by decide)) (zl110 hL) 1 (by decide) rfl rfl (zup_k (by decide)) kw678 dX4_feed_143 ?_
      refine z_iconst 1 hG dX4_feed_146 ?_
      refine z_iadd hG dX4_feed_147 ?_
      refine z_putI hG zcl4 (zltM hL (by decide)) (zl110 hL) 1 (by decide) (ki := 1) rfl rfl kw678 rfl rfl dX4_feed_148 ?_
      refine z_iinc (lv' := [(4, .int (zI (sh + (-8)))), (5, .int (zI (zl2i ((zushr x sh) &&& (zJ 255))))), (0, .ref (F.1 110)), (1, .long x)]) 3 hG dX4_feed_151 rfl (by decide) rfl ?_
      refine z_goto (tgt := 106) hG dX4_feed_154 (by decide) ?_
      refine z_perm (lv' := [(0, .ref (F.1 110)), (1, .long x), (4, .int (zI (sh + (-8))))]) [2, 3, 0] rfl ?_
      exact k2 c108 c124
    · skip
      refine z_goto (tgt := 151) hG dX4_feed_127 (by decide) ?_
      refine z_iinc (lv' := [(4, .int (zI (sh + (-8)))), (5, .int (zI (zl2i ((zushr x sh) &&& (zJ 255))))), (0, .ref (F.1 110)), (1, .long x)]) 3 hG dX4_feed_151 rfl (by decide) rfl ?_
      refine z_goto (tgt := 106) hG dX4_feed_154 (by decide) ?_
      refine z_perm (lv' := [(0, .ref (F.1 110)), (1, .long x), (4, .int (zI (sh + (-8))))]) [2, 3, 0] rfl ?_
      exact k3 c108 c124

abbrev rm_X4_store : Room := { frames := 1, cells := 0, slots := 0, locals := 21 }
set_option maxRecDepth 100000 in
set_option maxHeartbeats 4000000 in
theorem s_X4_store_0 {G : zCx} {F : zFr} {I : zStore} {post : Option Value → zStore → Prop} (hG : zOK G "LineLearnerModel" cX4_store 5) (hR : zRoom G rm_X4_store) (hE : zRetI G F cX4_store 0 0 post) (hL : zLayM F) (hr : zRg I) (hn : 0 ≤ I 110 3 ∧ I 110 3 ≤ 12) (h2 : 0 ≤ I 110 1 ∧ I 110 1 ≤ 30)
    (k1 : ((I 110 3) ≠ 12) → zW G F 0 0 (zup (zup (zup I 110 0 0) 112 (I 110 3) (I 110 1)) 114 (I 110 3) 0) [(0, .ref (F.1 110)), (1, .int (zI (30 * (I 110 3)))), (2, .int (zI 0))] [] 53)
    (k2 : ((I 110 3) = 12) → post (some (.int (zI 0))) (zup (zup I 110 0 0) 110 0 1)) :
    zW G F 0 0 I [(0, .ref (F.1 110))] [] 0 := by
  refine z_aload_n 0 hG dX4_store_0 rfl rfl ?_
  refine z_iconst 0 hG dX4_store_1 ?_
  refine z_putI hG zcl4 (zltM hL (by decide)) (zl110 hL) 0 (by decide) (ki := 0) rfl rfl kw677 rfl rfl dX4_store_2 ?_
  refine z_aload_n 0 hG dX4_store_5 rfl rfl ?_
  refine z_getI (v := I 110 3) hG zcl4 (zltM hL (by decide)) (zl110 hL) 3 (by decide) rfl rfl (zup_i (by decide)) kw680 dX4_store_6 ?_
  refine z_bipush 12 hG dX4_store_9 (by decide) ?_
  refine z_icmp_ne (tgt := 20) hG dX4_store_11 (by decide) (hr _ _) (by decide) (fun c11 => ?_) (fun c11 => ?_)
  · skip
    refine z_bipush 30 hG dX4_store_20 (by decide) ?_
    refine z_aload_n 0 hG dX4_store_22 rfl rfl ?_
    refine z_getI (v := I 110 3) hG zcl4 (zltM hL (by decide)) (zl110 hL) 3 (by decide) rfl rfl (zup_i (by decide)) kw680 dX4_store_23 ?_
    refine z_imul hG dX4_store_26 ?_
    refine z_istore_n (lv' := [(1, .int (zI (30 * (I 110 3)))), (0, .ref (F.1 110))]) hG dX4_store_27 rfl (by decide) rfl ?_
    refine z_aload_n 1 hG dX4_store_28 rfl rfl ?_
    refine z_getR (t := 112) hG zcl4 (zltM hL (by decide)) (zl110 hL) 4 (by decide) rfl kw681 dX4_store_29 ?_
    refine z_aload_n 1 hG dX4_store_32 rfl rfl ?_
    refine z_getI (v := I 110 3) hG zcl4 (zltM hL (by decide)) (zl110 hL) 3 (by decide) rfl rfl (zup_i (by decide)) kw680 dX4_store_33 ?_
    refine z_aload_n 1 hG dX4_store_36 rfl rfl ?_
    refine z_getI (v := I 110 1) hG zcl4 (zltM hL (by decide)) (zl110 hL) 1 (by decide) rfl rfl (zup_i (by decide)) kw678 dX4_store_37 ?_
    refine z_iast hG (zltM hL (by decide)) (zl112 hL) (by decide) (by omega) dX4_store_40 ?_
    refine z_aload_n 1 hG dX4_store_41 rfl rfl ?_
    refine z_getR (t := 114) hG zcl4 (zltM hL (by decide)) (zl110 hL) 6 (by decide) rfl kw683 dX4_store_42 ?_
    refine z_aload_n 1 hG dX4_store_45 rfl rfl ?_
    refine z_getI (v := I 110 3) hG zcl4 (zltM hL (by decide)) (zl110 hL) 3 (by decide) rfl rfl ((zup_k (by decide)).trans (zup_i (by decide))) kw680 dX4_store_46 ?_
    refine z_iconst 0 hG dX4_store_49 ?_
    refine z_iast hG (zltM hL (by decide)) (zl114 hL) (by decide) (by omega) dX4_store_50 ?_
    refine z_iconst 0 hG dX4_store_51 ?_
    refine z_istore_n (lv' := [(2, .int (zI 0)), (1, .int (zI (30 * (I 110 3)))), (0, .ref (F.1 110))]) hG dX4_store_52 rfl (by decide) rfl ?_
    refine z_perm (lv' := [(0, .ref (F.1 110)), (1, .int (zI (30 * (I 110 3)))), (2, .int (zI 0))]) [2, 1, 0] rfl ?_
    exact k1 c11
  · skip
    refine z_aload_n 0 hG dX4_store_14 rfl rfl ?_
    refine z_iconst 1 hG dX4_store_15 ?_
    refine z_callV [.int (zI 1)] hG hR (c_X4_fail hL (zRg_up hr (by decide)) (by first | assumption | omega | ((try simp only [zup_k, zup_i, zup_at, ne_eq, not_false_eq_true, Nat.reduceEqDiff]); simp only [zup_at]; omega))) hd_X4_fail kw772 kw774 kp23 rfl (zltM hL (by decide)) (zl110 hL) (by decide) (by decide) (by decide) (by decide) rfl rfl (Nat.le_of_ble_eq_true rfl) dX4_store_16 (fun r I' hp => ?_)
    rw [hp.1, hp.2]
    show zW G F 0 0 (zup (zup I 110 0 0) 110 0 1) [(0, .ref (F.1 110))] [.int (zI 0)] 19
    exact hE _ _ _ _ dX4_store_19 (k2 c11)

set_option maxRecDepth 100000 in
set_option maxHeartbeats 4000000 in
theorem s_X4_store_53 {G : zCx} {F : zFr} {I : zStore} {post : Option Value → zStore → Prop}{row k : Int} (hG : zOK G "LineLearnerModel" cX4_store 5) (hR : zRoom G rm_X4_store) (hE : zRetI G F cX4_store 0 0 post) (hL : zLayM F) (hr : zRg I) (h1 : 0 ≤ row ∧ row ≤ 330) (h2 : 0 ≤ k ∧ k ≤ I 110 1) (h3 : 0 ≤ I 110 1 ∧ I 110 1 ≤ 30) (hb : ∀ i : Int, 0 ≤ i → i < I 110 1 → 0 ≤ I 111 i ∧ I 111 i ≤ 126) (h4 : 0 ≤ I 110 3 ∧ I 110 3 < 12)
    (k1 : ((I 110 1) ≤ k) → post (some (.int (zI (((I 110 3) + 1) - 1)))) (zup (zup (zup I 110 1 0) 110 3 ((I 110 3) + 1)) 110 18 0))
    (k2 : (k < (I 110 1)) → (k ≤ 0) → zW G F 0 0 (zup I 113 (row + k) (I 111 k)) [(0, .ref (F.1 110)), (1, .int (zI row)), (2, .int (zI k)), (3, .int (zI (zkd (I 111 k)))), (4, .int (zI 0))] [] 116)
    (k3 : (k < (I 110 1)) → (0 < k) → ((zkd (I 111 k)) = 3) → zW G F 0 0 (zup I 113 (row + k) (I 111 k)) [(0, .ref (F.1 110)), (1, .int (zI row)), (2, .int (zI k)), (3, .int (zI (zkd (I 111 k)))), (4, .int (zI 0))] [] 116)
    (k4 : (k < (I 110 1)) → (0 < k) → ((zkd (I 111 k)) ≠ 3) → ((zkd (I 111 (k - 1))) ≠ (zkd (I 111 k))) → zW G F 0 0 (zup I 113 (row + k) (I 111 k)) [(0, .ref (F.1 110)), (1, .int (zI row)), (2, .int (zI k)), (3, .int (zI (zkd (I 111 k)))), (4, .int (zI 0))] [] 116)
    (k5 : (k < (I 110 1)) → (0 < k) → ((zkd (I 111 k)) ≠ 3) → ((zkd (I 111 (k - 1))) = (zkd (I 111 k))) → zW G F 0 0 (zup I 113 (row + k) (I 111 k)) [(0, .ref (F.1 110)), (1, .int (zI row)), (2, .int (zI k)), (3, .int (zI (zkd (I 111 k)))), (4, .int (zI 1))] [] 116) :
    zW G F 0 0 I [(0, .ref (F.1 110)), (1, .int (zI row)), (2, .int (zI k))] [] 53 := by
  refine z_iload_n 2 hG dX4_store_53 rfl rfl ?_
  refine z_aload_n 0 hG dX4_store_54 rfl rfl ?_
  refine z_getI (v := I 110 1) hG zcl4 (zltM hL (by decide)) (zl110 hL) 1 (by decide) rfl rfl rfl kw678 dX4_store_55 ?_
  refine z_icmp_ge (tgt := 213) hG dX4_store_58 (by decide) (by omega) (hr _ _) (fun c58 => ?_) (fun c58 => ?_)
  · skip
    refine z_aload_n 0 hG dX4_store_213 rfl rfl ?_
    refine z_iconst 0 hG dX4_store_214 ?_
    refine z_putI hG zcl4 (zltM hL (by decide)) (zl110 hL) 1 (by decide) (ki := 1) rfl rfl kw678 rfl rfl dX4_store_215 ?_
    refine z_aload_n 0 hG dX4_store_218 rfl rfl ?_
    refine z_dup hG dX4_store_219 rfl ?_
    refine z_getI (v := I 110 3) hG zcl4 (zltM hL (by decide)) (zl110 hL) 3 (by decide) rfl rfl (zup_i (by decide)) kw680 dX4_store_220 ?_
    refine z_iconst 1 hG dX4_store_223 ?_
    refine z_iadd hG dX4_store_224 ?_
    refine z_putI hG zcl4 (zltM hL (by decide)) (zl110 hL) 3 (by decide) (ki := 3) rfl rfl kw680 rfl rfl dX4_store_225 ?_
    refine z_aload_n 0 hG dX4_store_228 rfl rfl ?_
    refine z_iconst 0 hG dX4_store_229 ?_
    refine z_putZ hG zcl4 (zltM hL (by decide)) (zl110 hL) 18 (by decide) (ki := 18) rfl rfl kw695 rfl rfl (by decide) dX4_store_230 ?_
    refine z_aload_n 0 hG dX4_store_233 rfl rfl ?_
    refine z_getI (v := (I 110 3) + 1) hG zcl4 (zltM hL (by decide)) (zl110 hL) 3 (by decide) rfl rfl ((zup_i (by decide)).trans (zup_at _ _ _ _)) kw680 dX4_store_234 ?_
    refine z_iconst 1 hG dX4_store_237 ?_
    refine z_isub hG dX4_store_238 ?_
    exact hE _ _ _ _ dX4_store_239 (k1 c58)
  · skip
    have hb1 := hb k (by omega) (by omega)
    refine z_aload_n 0 hG dX4_store_61 rfl rfl ?_
    refine z_getR (t := 113) hG zcl4 (zltM hL (by decide)) (zl110 hL) 5 (by decide) rfl kw682 dX4_store_62 ?_
    refine z_iload_n 1 hG dX4_store_65 rfl rfl ?_
    refine z_iload_n 2 hG dX4_store_66 rfl rfl ?_
    refine z_iadd hG dX4_store_67 ?_
    refine z_aload_n 0 hG dX4_store_68 rfl rfl ?_
    refine z_getR (t := 111) hG zcl4 (zltM hL (by decide)) (zl110 hL) 2 (by decide) rfl kw679 dX4_store_69 ?_
    refine z_iload_n 2 hG dX4_store_72 rfl rfl ?_
    refine z_iald (v := I 111 k) hG (zltM hL (by decide)) (zl111 hL) (by decide) (by omega) rfl dX4_store_73 ?_
    refine z_iast hG (zltM hL (by decide)) (zl113 hL) (by decide) (by omega) dX4_store_74 ?_
    refine z_aload_n 0 hG dX4_store_75 rfl rfl ?_
    refine z_getR (t := 111) hG zcl4 (zltM hL (by decide)) (zl110 hL) 2 (by decide) rfl kw679 dX4_store_76 ?_
    refine z_iload_n 2 hG dX4_store_79 rfl rfl ?_
    refine z_iald (v := I 111 k) hG (zltM hL (by decide)) (zl111 hL) (by decide) (by omega) (zup_k (by decide)) dX4_store_80 ?_
    refine z_callS [.int (zI (I 111 k))] hG hR (c_X4_kindOf (zRg_up hr (hr _ _)) (by first | assumption | omega | ((try simp only [zup_k, zup_i, zup_at, ne_eq, not_false_eq_true, Nat.reduceEqDiff]); simp only [zup_at]; omega))) hd_X4_kindOf kw776 kw777 (by decide) (by decide) (by decide) (by decide) rfl rfl (Nat.le_of_ble_eq_true rfl) dX4_store_81 (fun r I' hp => ?_)
    rw [hp.1, hp.2]
    have ha81_0 : 0 ≤ (zkd (I 111 k)) ∧ (zkd (I 111 k)) ≤ 3 := zkd_bd
    show zW G F 0 0 (zup I 113 (row + k) (I 111 k)) [(0, .ref (F.1 110)), (1, .int (zI row)), (2, .int (zI k))] [.int (zI (zkd (I 111 k)))] 84
    refine z_istore_n (lv' := [(3, .int (zI (zkd (I 111 k)))), (0, .ref (F.1 110)), (1, .int (zI row)), (2, .int (zI k))]) hG dX4_store_84 rfl (by decide) rfl ?_
    refine z_iload_n 3 hG dX4_store_85 rfl rfl ?_
    refine z_if_le (tgt := 113) hG dX4_store_86 (by decide) (by omega) (fun c86 => ?_) (fun c86 => ?_)
    · skip
      refine z_iconst 0 hG dX4_store_113 ?_
      refine z_istore (lv' := [(4, .int (zI 0)), (3, .int (zI (zkd (I 111 k)))), (0, .ref (F.1 110)), (1, .int (zI row)), (2, .int (zI k))]) hG dX4_store_114 (by decide) rfl ?_
      refine z_perm (lv' := [(0, .ref (F.1 110)), (1, .int (zI row)), (2, .int (zI k)), (3, .int (zI (zkd (I 111 k)))), (4, .int (zI 0))]) [2, 3, 4, 1, 0] rfl ?_
      exact k2 c58 c86
    · skip
      refine z_iload_n 0 hG dX4_store_89 rfl rfl ?_
      refine z_iconst 3 hG dX4_store_90 ?_
      refine z_icmp_eq (tgt := 113) hG dX4_store_91 (by decide) (by omega) (by decide) (fun c91 => ?_) (fun c91 => ?_)
      · skip
        refine z_iconst 0 hG dX4_store_113 ?_
        refine z_istore (lv' := [(4, .int (zI 0)), (3, .int (zI (zkd (I 111 k)))), (0, .ref (F.1 110)), (1, .int (zI row)), (2, .int (zI k))]) hG dX4_store_114 (by decide) rfl ?_
        refine z_perm (lv' := [(0, .ref (F.1 110)), (1, .int (zI row)), (2, .int (zI k)), (3, .int (zI (zkd (I 111 k)))), (4, .int (zI 0))]) [2, 3, 4, 1, 0] rfl ?_
        exact k3 c58 c86 c91
      · skip
        have hb2 := hb (k - 1) (by omega) (by omega)
        refine z_aload_n 1 hG dX4_store_94 rfl rfl ?_
        refine z_getR (t := 111) hG zcl4 (zltM hL (by decide)) (zl110 hL) 2 (by decide) rfl kw679 dX4_store_95 ?_
        refine z_iload_n 3 hG dX4_store_98 rfl rfl ?_
        refine z_iconst 1 hG dX4_store_99 ?_
        refine z_isub hG dX4_store_100 ?_
        refine z_iald (v := I 111 (k - 1)) hG (zltM hL (by decide)) (zl111 hL) (by decide) (by omega) (zup_k (by decide)) dX4_store_101 ?_
        refine z_callS [.int (zI (I 111 (k - 1)))] hG hR (c_X4_kindOf (zRg_up hr (hr _ _)) (by first | assumption | omega | ((try simp only [zup_k, zup_i, zup_at, ne_eq, not_false_eq_true, Nat.reduceEqDiff]); simp only [zup_at]; omega))) hd_X4_kindOf kw776 kw777 (by decide) (by decide) (by decide) (by decide) rfl rfl (Nat.le_of_ble_eq_true rfl) dX4_store_102 (fun r I' hp => ?_)
        rw [hp.1, hp.2]
        have ha102_0 : 0 ≤ (zkd (I 111 (k - 1))) ∧ (zkd (I 111 (k - 1))) ≤ 3 := zkd_bd
        show zW G F 0 0 (zup I 113 (row + k) (I 111 k)) [(3, .int (zI (zkd (I 111 k)))), (0, .ref (F.1 110)), (1, .int (zI row)), (2, .int (zI k))] [.int (zI (zkd (I 111 (k - 1))))] 105
        refine z_iload_n 0 hG dX4_store_105 rfl rfl ?_
        refine z_icmp_ne (tgt := 113) hG dX4_store_106 (by decide) (by omega) (by omega) (fun c106 => ?_) (fun c106 => ?_)
        · skip
          refine z_iconst 0 hG dX4_store_113 ?_
          refine z_istore (lv' := [(4, .int (zI 0)), (3, .int (zI (zkd (I 111 k)))), (0, .ref (F.1 110)), (1, .int (zI row)), (2, .int (zI k))]) hG dX4_store_114 (by decide) rfl ?_
          refine z_perm (lv' := [(0, .ref (F.1 110)), (1, .int (zI row)), (2, .int (zI k)), (3, .int (zI (zkd (I 111 k)))), (4, .int (zI 0))]) [2, 3, 4, 1, 0] rfl ?_
          exact k4 c58 c86 c91 c106
        · skip
          refine z_iconst 1 hG dX4_store_109 ?_
          refine z_goto (tgt := 114) hG dX4_store_110 (by decide) ?_
          refine z_istore (lv' := [(4, .int (zI 1)), (3, .int (zI (zkd (I 111 k)))), (0, .ref (F.1 110)), (1, .int (zI row)), (2, .int (zI k))]) hG dX4_store_114 (by decide) rfl ?_
          refine z_perm (lv' := [(0, .ref (F.1 110)), (1, .int (zI row)), (2, .int (zI k)), (3, .int (zI (zkd (I 111 k)))), (4, .int (zI 1))]) [2, 3, 4, 1, 0] rfl ?_
          exact k5 c58 c86 c91 c106

set_option maxRecDepth 100000 in
set_option maxHeartbeats 4000000 in
theorem s_X4_store_116 {G : zCx} {F : zFr} {I : zStore} {post : Option Value → zStore → Prop}{row k kind go : Int} (hG : zOK G "LineLearnerModel" cX4_store 5) (hR : zRoom G rm_X4_store) (hE : zRetI G F cX4_store 0 0 post) (hL : zLayM F) (hr : zRg I) (h1 : 0 ≤ row ∧ row ≤ 330) (h4 : 0 ≤ I 110 3 ∧ I 110 3 < 12) (h5 : 0 ≤ I 114 (I 110 3) ∧ (go = 0 → I 114 (I 110 3) < 30)) (h6 : 0 ≤ go ∧ go ≤ 1)
    (k1 : (go ≠ 0) → zW G F 0 0 I [(0, .ref (F.1 110)), (1, .int (zI row)), (2, .int (zI k))] [] 185)
    (k2 : (go = 0) → zW G F 0 0 (zup (zup (zup (zup I 115 (row + (I 114 (I 110 3))) kind) 116 (row + (I 114 (I 110 3))) k) 117 (row + (I 114 (I 110 3))) 0) 114 (I 110 3) ((I 114 (I 110 3)) + 1)) [(0, .ref (F.1 110)), (1, .int (zI row)), (2, .int (zI k))] [] 185) :
    zW G F 0 0 I [(0, .ref (F.1 110)), (1, .int (zI row)), (2, .int (zI k)), (3, .int (zI kind)), (4, .int (zI go))] [] 116 := by
  refine z_iload 4 hG dX4_store_116 rfl ?_
  refine z_if_ne (tgt := 185) hG dX4_store_118 (by decide) (by omega) (fun c118 => ?_) (fun c118 => ?_)
  · skip
    refine z_perm (lv' := [(0, .ref (F.1 110)), (1, .int (zI row)), (2, .int (zI k))]) [0, 1, 2] rfl ?_
    exact k1 c118
  · skip
    refine z_aload_n 0 hG dX4_store_121 rfl rfl ?_
    refine z_getR (t := 115) hG zcl4 (zltM hL (by decide)) (zl110 hL) 7 (by decide) rfl kw684 dX4_store_122 ?_
    refine z_iload_n 1 hG dX4_store_125 rfl rfl ?_
    refine z_aload_n 0 hG dX4_store_126 rfl rfl ?_
    refine z_getR (t := 114) hG zcl4 (zltM hL (by decide)) (zl110 hL) 6 (by decide) rfl kw683 dX4_store_127 ?_
    refine z_aload_n 0 hG dX4_store_130 rfl rfl ?_
    refine z_getI (v := I 110 3) hG zcl4 (zltM hL (by decide)) (zl110 hL) 3 (by decide) rfl rfl rfl kw680 dX4_store_131 ?_
    refine z_iald (v := I 114 (I 110 3)) hG (zltM hL (by decide)) (zl114 hL) (by decide) (by omega) rfl dX4_store_134 ?_
    refine z_iadd hG dX4_store_135 ?_
    refine z_iload_n 3 hG dX4_store_136 rfl rfl ?_
    refine z_iast hG (zltM hL (by decide)) (zl115 hL) (by decide) (by omega) dX4_store_137 ?_
    refine z_aload_n 0 hG dX4_store_138 rfl rfl ?_
    refine z_getR (t := 116) hG zcl4 (zltM hL (by decide)) (zl110 hL) 8 (by decide) rfl kw685 dX4_store_139 ?_
    refine z_iload_n 1 hG dX4_store_142 rfl rfl ?_
    refine z_aload_n 0 hG dX4_store_143 rfl rfl ?_
    refine z_getR (t := 114) hG zcl4 (zltM hL (by decide)) (zl110 hL) 6 (by decide) rfl kw683 dX4_store_144 ?_
    refine z_aload_n 0 hG dX4_store_147 rfl rfl ?_
    refine z_getI (v := I 110 3) hG zcl4 (zltM hL (by decide)) (zl110 hL) 3 (by decide) rfl rfl (zup_k (by decide)) kw680 dX4_store_148 ?_
    refine z_iald (v := I 114 (I 110 3)) hG (zltM hL (by decide)) (zl114 hL) (by decide) (by omega) (zup_k (by decide)) dX4_store_151 ?_
    refine z_iadd hG dX4_store_152 ?_
    refine z_iload_n 2 hG dX4_store_153 rfl rfl ?_
    refine z_iast hG (zltM hL (by decide)) (zl116 hL) (by decide) (by omega) dX4_store_154 ?_
    refine z_aload_n 0 hG dX4_store_155 rfl rfl ?_
    refine z_getR (t := 117) hG zcl4 (zltM hL (by decide)) (zl110 hL) 9 (by decide) rfl kw686 dX4_store_156 ?_
    refine z_iload_n 1 hG dX4_store_159 rfl rfl ?_
    refine z_aload_n 0 hG dX4_store_160 rfl rfl ?_
    refine z_getR (t := 114) hG zcl4 (zltM hL (by decide)) (zl110 hL) 6 (by decide) rfl kw683 dX4_store_161 ?_
    refine z_aload_n 0 hG dX4_store_164 rfl rfl ?_
    refine z_getI (v := I 110 3) hG zcl4 (zltM hL (by decide)) (zl110 hL) 3 (by decide) rfl rfl ((zup_k (by decide)).trans (zup_k (by decide))) kw680 dX4_store_165 ?_
    refine z_iald (v := I 114 (I 110 3)) hG (zltM hL (by decide)) (zl114 hL) (by decide) (by omega) ((zup_k (by decide)).trans (zup_k (by decide))) dX4_store_168 ?_
    refine z_iadd hG dX4_store_169 ?_
    refine z_iconst 0 hG dX4_store_170 ?_
    refine z_iast hG (zltM hL (by decide)) (zl117 hL) (by decide) (by omega) dX4_store_171 ?_
    refine z_aload_n 0 hG dX4_store_172 rfl rfl ?_
    refine z_getR (t := 114) hG zcl4 (zltM hL (by decide)) (zl110 hL) 6 (by decide) rfl kw683 dX4_store_173 ?_
    refine z_aload_n 0 hG dX4_store_176 rfl rfl ?_
    refine z_getI (v := I 110 3) hG zcl4 (zltM hL (by decide)) (zl110 hL) 3 (by decide) rfl rfl ((zup_k (by decide)).trans ((zup_k (by decide)).trans (zup_k (by decide)))) kw680 dX4_store_177 ?_
    refine z_dup2 hG dX4_store_180 rfl rfl ?_
    refine z_iald (v := I 114 (I 110 3)) hG (zltM hL (by decide)) (zl114 hL) (by decide) (by omega) ((zup_k (by decide)).trans ((zup_k (by decide)).trans (zup_k (by decide)))) dX4_store_181 ?_
    refine z_iconst 1 hG dX4_store_182 ?_
    refine z_iadd hG dX4_store_183 ?_
    refine z_iast hG (zltM hL (by decide)) (zl114 hL) (by decide) (by omega) dX4_store_184 ?_
    refine z_perm (lv' := [(0, .ref (F.1 110)), (1, .int (zI row)), (2, .int (zI k))]) [0, 1, 2] rfl ?_
    exact k2 c118

set_option maxRecDepth 100000 in
set_option maxHeartbeats 4000000 in
theorem s_X4_store_185 {G : zCx} {F : zFr} {I : zStore} {post : Option Value → zStore → Prop}{row k : Int} (hG : zOK G "LineLearnerModel" cX4_store 5) (hR : zRoom G rm_X4_store) (hE : zRetI G F cX4_store 0 0 post) (hL : zLayM F) (hr : zRg I) (h1 : 0 ≤ row ∧ row ≤ 330) (h4 : 0 ≤ I 110 3 ∧ I 110 3 < 12) (h5 : 1 ≤ I 114 (I 110 3) ∧ I 114 (I 110 3) ≤ 30)
    (k1 : zW G F 0 0 (zup I 117 ((row + (I 114 (I 110 3))) - 1) ((I 117 ((row + (I 114 (I 110 3))) - 1)) + 1)) [(0, .ref (F.1 110)), (1, .int (zI row)), (2, .int (zI (k + 1)))] [] 53) :
    zW G F 0 0 I [(0, .ref (F.1 110)), (1, .int (zI row)), (2, .int (zI k))] [] 185 := by
  refine z_aload_n 0 hG dX4_store_185 rfl rfl ?_
  refine z_getR (t := 117) hG zcl4 (zltM hL (by decide)) (zl110 hL) 9 (by decide) rfl kw686 dX4_store_186 ?_
  refine z_iload_n 1 hG dX4_store_189 rfl rfl ?_
  refine z_aload_n 0 hG dX4_store_190 rfl rfl ?_
  refine z_getR (t := 114) hG zcl4 (zltM hL (by decide)) (zl110 hL) 6 (by decide) rfl kw683 dX4_store_191 ?_
  refine z_aload_n 0 hG dX4_store_194 rfl rfl ?_
  refine z_getI (v := I 110 3) hG zcl4 (zltM hL (by decide)) (zl110 hL) 3 (by decide) rfl rfl rfl kw680 dX4_store_195 ?_
  refine z_iald (v := I 114 (I 110 3)) hG (zltM hL (by decide)) (zl114 hL) (by decide) (by omega) rfl dX4_store_198 ?_
  refine z_iadd hG dX4_store_199 ?_
  refine z_iconst 1 hG dX4_store_200 ?_
  refine z_isub hG dX4_store_201 ?_
  refine z_dup2 hG dX4_store_202 rfl rfl ?_
  refine z_iald (v := I 117 ((row + (I 114 (I 110 3))) - 1)) hG (zltM hL (by decide)) (zl117 hL) (by decide) (by omega) rfl dX4_store_203 ?_
  refine z_iconst 1 hG dX4_store_204 ?_
  refine z_iadd hG dX4_store_205 ?_
  refine z_iast hG (zltM hL (by decide)) (zl117 hL) (by decide) (by omega) dX4_store_206 ?_
  refine z_iinc (lv' := [(2, .int (zI (k + 1))), (0, .ref (F.1 110)), (1, .int (zI row))]) 2 hG dX4_store_207 rfl (by decide) rfl ?_
  refine z_goto (tgt := 53) hG dX4_store_210 (by decide) ?_
  refine z_perm (lv' := [(0, .ref (F.1 110)), (1, .int (zI row)), (2, .int (zI (k + 1)))]) [1, 2, 0] rfl ?_
  exact k1

abbrev rm_X4_digest : Room := { frames := 3, cells := 0, slots := 0, locals := 70 }
set_option maxRecDepth 100000 in
set_option maxHeartbeats 4000000 in
theorem s_X4_digest_0 {G : zCx} {F : zFr} {I : zStore} {post : Option Value → zStore → Prop} (hG : zOK G "LineLearnerModel" cX4_digest 5) (hR : zRoom G rm_X4_digest) (hE : zRetL G F cX4_digest 0 0 post) (hL : zLayM F) (hr : zRg I)
    (k1 : zW G F 0 0 (zup I 110 0 0) [(0, .ref (F.1 110)), (1, .long (zJ (((4619 + (I 110 1)) * 31) + (I 110 3)))), (3, .int (zI 0))] [] 27) :
    zW G F 0 0 I [(0, .ref (F.1 110))] [] 0 := by
  refine z_aload_n 0 hG dX4_digest_0 rfl rfl ?_
  refine z_iconst 0 hG dX4_digest_1 ?_
  refine z_putI hG zcl4 (zltM hL (by decide)) (zl110 hL) 0 (by decide) (ki := 0) rfl rfl kw677 rfl rfl dX4_digest_2 ?_
  refine z_ldc2 4619 hG kw970 (by decide) dX4_digest_5 ?_
  refine z_aload_n 0 hG dX4_digest_8 rfl rfl ?_
  refine z_getI (v := I 110 1) hG zcl4 (zltM hL (by decide)) (zl110 hL) 1 (by decide) rfl rfl (zup_i (by decide)) kw678 dX4_digest_9 ?_
  refine z_i2l hG dX4_digest_12 (hr _ _) ?_
  refine z_ladd hG dX4_digest_13 ?_
  refine z_ldc2 31 hG kw971 (by decide) dX4_digest_14 ?_
  refine z_lmul hG dX4_digest_17 ?_
  refine z_aload_n 0 hG dX4_digest_18 rfl rfl ?_
  refine z_getI (v := I 110 3) hG zcl4 (zltM hL (by decide)) (zl110 hL) 3 (by decide) rfl rfl (zup_i (by decide)) kw680 dX4_digest_19 ?_
  refine z_i2l hG dX4_digest_22 (hr _ _) ?_
  refine z_ladd hG dX4_digest_23 ?_
  refine z_lstore_n (lv' := [(1, .long (zJ (((4619 + (I 110 1)) * 31) + (I 110 3)))), (0, .ref (F.1 110))]) hG dX4_digest_24 rfl (by decide) rfl ?_
  refine z_iconst 0 hG dX4_digest_25 ?_
  refine z_istore_n (lv' := [(3, .int (zI 0)), (1, .long (zJ (((4619 + (I 110 1)) * 31) + (I 110 3)))), (0, .ref (F.1 110))]) hG dX4_digest_26 rfl (by decide) rfl ?_
  refine z_perm (lv' := [(0, .ref (F.1 110)), (1, .long (zJ (((4619 + (I 110 1)) * 31) + (I 110 3)))), (3, .int (zI 0))]) [2, 1, 0] rfl ?_
  exact k1

set_option maxRecDepth 100000 in
set_option maxHeartbeats 4000000 in
theorem s_X4_digest_27 {G : zCx} {F : zFr} {I : zStore} {post : Option Value → zStore → Prop}{d line : Int} (hG : zOK G "LineLearnerModel" cX4_digest 5) (hR : zRoom G rm_X4_digest) (hE : zRetL G F cX4_digest 0 0 post) (hL : zLayM F) (hr : zRg I) (h1 : 0 ≤ line ∧ line ≤ 12) (hn : 0 ≤ I 110 3 ∧ I 110 3 ≤ 12)
    (k1 : ((I 110 3) ≤ line) → zW G F 0 0 I [(0, .ref (F.1 110)), (1, .long (zJ ((((((((d * 31) + (I 110 10)) * 31) + (I 110 11)) * 31) + (I 110 12)) * 31) + (I 118 0)))), (3, .int (zI 0))] [] 143)
    (k2 : (line < (I 110 3)) → zW G F 0 0 I [(0, .ref (F.1 110)), (1, .long (zJ ((d * 31) + (I 112 line)))), (3, .int (zI line)), (4, .int (zI 0))] [] 52) :
    zW G F 0 0 I [(0, .ref (F.1 110)), (1, .long (zJ d)), (3, .int (zI line))] [] 27 := by
  refine z_iload_n 2 hG dX4_digest_27 rfl rfl ?_
  refine z_aload_n 0 hG dX4_digest_28 rfl rfl ?_
  refine z_getI (v := I 110 3) hG zcl4 (zltM hL (by decide)) (zl110 hL) 3 (by decide) rfl rfl rfl kw680 dX4_digest_29 ?_
  refine z_icmp_ge (tgt := 95) hG dX4_digest_32 (by decide) (by omega) (hr _ _) (fun c32 => ?_) (fun c32 => ?_)
  · skip
    refine z_lload_n 1 hG dX4_digest_95 rfl rfl ?_
    refine z_ldc2 31 hG kw971 (by decide) dX4_digest_96 ?_
    refine z_lmul hG dX4_digest_99 ?_
    refine z_aload_n 0 hG dX4_digest_100 rfl rfl ?_
    refine z_getI (v := I 110 10) hG zcl4 (zltM hL (by decide)) (zl110 hL) 10 (by decide) rfl rfl rfl kw687 dX4_digest_101 ?_
    refine z_i2l hG dX4_digest_104 (hr _ _) ?_
    refine z_ladd hG dX4_digest_105 ?_
    refine z_ldc2 31 hG kw971 (by decide) dX4_digest_106 ?_
    refine z_lmul hG dX4_digest_109 ?_
    refine z_aload_n 0 hG dX4_digest_110 rfl rfl ?_
    refine z_getI (v := I 110 11) hG zcl4 (zltM hL (by decide)) (zl110 hL) 11 (by decide) rfl rfl rfl kw688 dX4_digest_111 ?_
    refine z_i2l hG dX4_digest_114 (hr _ _) ?_
    refine z_ladd hG dX4_digest_115 ?_
    refine z_ldc2 31 hG kw971 (by decide) dX4_digest_116 ?_
    refine z_lmul hG dX4_digest_119 ?_
    refine z_aload_n 0 hG dX4_digest_120 rfl rfl ?_
    refine z_getI (v := I 110 12) hG zcl4 (zltM hL (by decide)) (zl110 hL) 12 (by decide) rfl rfl rfl kw689 dX4_digest_121 ?_
    refine z_i2l hG dX4_digest_124 (hr _ _) ?_
    refine z_ladd hG dX4_digest_125 ?_
    refine z_lstore_n (lv' := [(1, .long (zJ ((((((d * 31) + (I 110 10)) * 31) + (I 110 11)) * 31) + (I 110 12)))), (0, .ref (F.1 110)), (3, .int (zI line))]) hG dX4_digest_126 rfl (by decide) rfl ?_
    refine z_lload_n 0 hG dX4_digest_127 rfl rfl ?_
    refine z_ldc2 31 hG kw971 (by decide) dX4_digest_128 ?_
    refine z_lmul hG dX4_digest_131 ?_
    refine z_aload_n 1 hG dX4_digest_132 rfl rfl ?_
    refine z_getR (t := 118) hG zcl4 (zltM hL (by decide)) (zl110 hL) 13 (by decide) rfl kw690 dX4_digest_133 ?_
    refine z_iconst 0 hG dX4_digest_136 ?_
    refine z_iald (v := I 118 0) hG (zltM hL (by decide)) (zl118 hL) (by decide) (by decide) rfl dX4_digest_137 ?_
    refine z_i2l hG dX4_digest_138 (hr _ _) ?_
    refine z_ladd hG dX4_digest_139 ?_
    refine z_lstore_n (lv' := [(1, .long (zJ ((((((((d * 31) + (I 110 10)) * 31) + (I 110 11)) * 31) + (I 110 12)) * 31) + (I 118 0)))), (0, .ref (F.1 110)), (3, .int (zI line))]) hG dX4_digest_140 rfl (by decide) rfl ?_
    refine z_iconst 0 hG dX4_digest_141 ?_
    refine z_istore_n (lv' := [(3, .int (zI 0)), (1, .long (zJ ((((((((d * 31) + (I 110 10)) * 31) + (I 110 11)) * 31) + (I 110 12)) * 31) + (I 118 0)))), (0, .ref (F.1 110))]) hG dX4_digest_142 rfl (by decide) rfl ?_
    refine z_perm (lv' := [(0, .ref (F.1 110)), (1, .long (zJ ((((((((d * 31) + (I 110 10)) * 31) + (I 110 11)) * 31) + (I 110 12)) * 31) + (I 118 0)))), (3, .int (zI 0))]) [2, 1, 0] rfl ?_
    exact k1 c32
  · skip
    refine z_lload_n 1 hG dX4_digest_35 rfl rfl ?_
    refine z_ldc2 31 hG kw971 (by decide) dX4_digest_36 ?_
    refine z_lmul hG dX4_digest_39 ?_
    refine z_aload_n 0 hG dX4_digest_40 rfl rfl ?_
    refine z_getR (t := 112) hG zcl4 (zltM hL (by decide)) (zl110 hL) 4 (by decide) rfl kw681 dX4_digest_41 ?_
    refine z_iload_n 2 hG dX4_digest_44 rfl rfl ?_
    refine z_iald (v := I 112 line) hG (zltM hL (by decide)) (zl112 hL) (by decide) (by omega) rfl dX4_digest_45 ?_
    refine z_i2l hG dX4_digest_46 (hr _ _) ?_
    refine z_ladd hG dX4_digest_47 ?_
    refine z_lstore_n (lv' := [(1, .long (zJ ((d * 31) + (I 112 line)))), (0, .ref (F.1 110)), (3, .int (zI line))]) hG dX4_digest_48 rfl (by decide) rfl ?_
    refine z_iconst 0 hG dX4_digest_49 ?_
    refine z_istore (lv' := [(4, .int (zI 0)), (1, .long (zJ ((d * 31) + (I 112 line)))), (0, .ref (F.1 110)), (3, .int (zI line))]) hG dX4_digest_50 (by decide) rfl ?_
    refine z_perm (lv' := [(0, .ref (F.1 110)), (1, .long (zJ ((d * 31) + (I 112 line)))), (3, .int (zI line)), (4, .int (zI 0))]) [2, 1, 3, 0] rfl ?_
    exact k2 c32

set_option maxRecDepth 100000 in
set_option maxHeartbeats 4000000 in
theorem s_X4_digest_52 {G : zCx} {F : zFr} {I : zStore} {post : Option Value → zStore → Prop}{d line k : Int} (hG : zOK G "LineLearnerModel" cX4_digest 5) (hR : zRoom G rm_X4_digest) (hE : zRetL G F cX4_digest 0 0 post) (hL : zLayM F) (hr : zRg I) (h1 : 0 ≤ line ∧ line < 12) (h2 : 0 ≤ k ∧ k ≤ 30) (h3 : 0 ≤ I 112 line ∧ I 112 line ≤ 30)
    (k1 : ((I 112 line) ≤ k) → zW G F 0 0 I [(0, .ref (F.1 110)), (1, .long (zJ d)), (3, .int (zI (line + 1)))] [] 27)
    (k2 : (k < (I 112 line)) → zW G F 0 0 I [(0, .ref (F.1 110)), (1, .long (zJ ((d * 31) + (I 113 ((30 * line) + k))))), (3, .int (zI line)), (4, .int (zI (k + 1)))] [] 52) :
    zW G F 0 0 I [(0, .ref (F.1 110)), (1, .long (zJ d)), (3, .int (zI line)), (4, .int (zI k))] [] 52 := by
  refine z_iload 3 hG dX4_digest_52 rfl ?_
  refine z_aload_n 0 hG dX4_digest_54 rfl rfl ?_
  refine z_getR (t := 112) hG zcl4 (zltM hL (by decide)) (zl110 hL) 4 (by decide) rfl kw681 dX4_digest_55 ?_
  refine z_iload_n 2 hG dX4_digest_58 rfl rfl ?_
  refine z_iald (v := I 112 line) hG (zltM hL (by decide)) (zl112 hL) (by decide) (by omega) rfl dX4_digest_59 ?_
  refine z_icmp_ge (tgt := 89) hG dX4_digest_60 (by decide) (by omega) (hr _ _) (fun c60 => ?_) (fun c60 => ?_)
  · skip
    refine z_iinc (lv' := [(3, .int (zI (line + 1))), (0, .ref (F.1 110)), (1, .long (zJ d)), (4, .int (zI k))]) 2 hG dX4_digest_89 rfl (by decide) rfl ?_
    refine z_goto (tgt := 27) hG dX4_digest_92 (by decide) ?_
    refine z_perm (lv' := [(0, .ref (F.1 110)), (1, .long (zJ d)), (3, .int (zI (line + 1)))]) [1, 2, 0] rfl ?_
    exact k1 c60
  · skip
    refine z_lload_n 1 hG dX4_digest_63 rfl rfl ?_
    refine z_ldc2 31 hG kw971 (by decide) dX4_digest_64 ?_
    refine z_lmul hG dX4_digest_67 ?_
    refine z_aload_n 0 hG dX4_digest_68 rfl rfl ?_
    refine z_getR (t := 113) hG zcl4 (zltM hL (by decide)) (zl110 hL) 5 (by decide) rfl kw682 dX4_digest_69 ?_
    refine z_bipush 30 hG dX4_digest_72 (by decide) ?_
    refine z_iload_n 2 hG dX4_digest_74 rfl rfl ?_
    refine z_imul hG dX4_digest_75 ?_
    refine z_iload 3 hG dX4_digest_76 rfl ?_
    refine z_iadd hG dX4_digest_78 ?_
    refine z_iald (v := I 113 ((30 * line) + k)) hG (zltM hL (by decide)) (zl113 hL) (by decide) (by omega) rfl dX4_digest_79 ?_
    refine z_i2l hG dX4_digest_80 (hr _ _) ?_
    refine z_ladd hG dX4_digest_81 ?_
    refine z_lstore_n (lv' := [(1, .long (zJ ((d * 31) + (I 113 ((30 * line) + k))))), (0, .ref (F.1 110)), (3, .int (zI line)), (4, .int (zI k))]) hG dX4_digest_82 rfl (by decide) rfl ?_
    refine z_iinc (lv' := [(4, .int (zI (k + 1))), (1, .long (zJ ((d * 31) + (I 113 ((30 * line) + k))))), (0, .ref (F.1 110)), (3, .int (zI line))]) 3 hG dX4_digest_83 rfl (by decide) rfl ?_
    refine z_goto (tgt := 52) hG dX4_digest_86 (by decide) ?_
    refine z_perm (lv' := [(0, .ref (F.1 110)), (1, .long (zJ ((d * 31) + (I 113 ((30 * line) + k))))), (3, .int (zI line)), (4, .int (zI (k + 1)))]) [2, 1, 3, 0] rfl ?_
    exact k2 c60

set_option maxRecDepth 100000 in
set_option maxHeartbeats 4000000 in
theorem s_X4_digest_143 {G : zCx} {F : zFr} {I : zStore} {post : Option Value → zStore → Prop}{d slot : Int} (hG : zOK G "LineLearnerModel" cX4_digest 5) (hR : zRoom G rm_X4_digest) (hE : zRetL G F cX4_digest 0 0 post) (hL : zLayM F) (hr : zRg I) (h1 : 0 ≤ slot ∧ slot ≤ 40) (hf : 0 ≤ I 118 0 ∧ I 118 0 ≤ 40) (hn : 0 ≤ I 110 3 ∧ I 110 3 ≤ 12) (hk : 0 ≤ I 119 0 ∧ I 119 0 < 4096) (hu : ∀ _u : Unit, slot < I 118 0 → (∀ l : Int, 0 ≤ l → l < I 110 3 → I 122 (12 * (40 * 0 + slot) + l) ≠ (-1) → 0 ≤ I 122 (12 * (40 * 0 + slot) + l) ∧ I 122 (12 * (40 * 0 + slot) + l) < 30) ∧ (I 121 slot ≠ (-1) → 0 ≤ I 121 slot ∧ I 121 slot < 360))
    (k1 : ((I 118 0) ≤ slot) → zW G F 0 0 I [(0, .ref (F.1 110)), (1, .long (zJ ((d * 31) + (zbc (I 119 0))))), (3, .int (zI 0))] [] 261)
    (k2 : (slot < (I 118 0)) → ((I 121 slot) ≠ (-1)) → zW G F 0 0 I [(0, .ref (F.1 110)), (1, .long (zJ ((((((((((d * 31) + (I 120 slot)) * 31) + (zme (I 122) (I 117) slot 0 (I 110 3).toNat)) * 31) + (zme (I 122) (I 117) slot 1 (I 110 3).toNat)) * 31) + (zmu (I 122) 0 slot (I 110 3).toNat)) * 31) + (I 117 (I 121 slot))))), (3, .int (zI (slot + 1)))] [] 143)
    (k3 : (slot < (I 118 0)) → ((I 121 slot) = (-1)) → zW G F 0 0 I [(0, .ref (F.1 110)), (1, .long (zJ ((((((((((d * 31) + (I 120 slot)) * 31) + (zme (I 122) (I 117) slot 0 (I 110 3).toNat)) * 31) + (zme (I 122) (I 117) slot 1 (I 110 3).toNat)) * 31) + (zmu (I 122) 0 slot (I 110 3).toNat)) * 31) + (-1)))), (3, .int (zI (slot + 1)))] [] 143) :
    zW G F 0 0 I [(0, .ref (F.1 110)), (1, .long (zJ d)), (3, .int (zI slot))] [] 143 := by
  refine z_iload_n 2 hG dX4_digest_143 rfl rfl ?_
  refine z_aload_n 0 hG dX4_digest_144 rfl rfl ?_
  refine z_getR (t := 118) hG zcl4 (zltM hL (by decide)) (zl110 hL) 13 (by decide) rfl kw690 dX4_digest_145 ?_
  refine z_iconst 0 hG dX4_digest_148 ?_
  refine z_iald (v := I 118 0) hG (zltM hL (by decide)) (zl118 hL) (by decide) (by decide) rfl dX4_digest_149 ?_
  refine z_icmp_ge (tgt := 242) hG dX4_digest_150 (by decide) (by omega) (hr _ _) (fun c150 => ?_) (fun c150 => ?_)
  · skip
    refine z_lload_n 1 hG dX4_digest_242 rfl rfl ?_
    refine z_ldc2 31 hG kw971 (by decide) dX4_digest_243 ?_
    refine z_lmul hG dX4_digest_246 ?_
    refine z_aload_n 0 hG dX4_digest_247 rfl rfl ?_
    refine z_getR (t := 119) hG zcl4 (zltM hL (by decide)) (zl110 hL) 14 (by decide) rfl kw691 dX4_digest_248 ?_
    refine z_iconst 0 hG dX4_digest_251 ?_
    refine z_iald (v := I 119 0) hG (zltM hL (by decide)) (zl119 hL) (by decide) (by decide) rfl dX4_digest_252 ?_
    refine z_callS [.int (zI (I 119 0))] hG hR (c_J_bc hr (by first | assumption | omega | ((try simp only [zup_k, zup_i, zup_at, ne_eq, not_false_eq_true, Nat.reduceEqDiff]); simp only [zup_at]; omega))) hd_J_bc kw848 kw849 (by decide) (by decide) (by decide) (by decide) rfl rfl (Nat.le_of_ble_eq_true rfl) dX4_digest_253 (fun r I' hp => ?_)
    rw [hp.1, hp.2]
    have ha253_0 : 0 ≤ (zbc (I 119 0)) ∧ (zbc (I 119 0)) ≤ 12 := zbc_bd _
    show zW G F 0 0 I [(0, .ref (F.1 110)), (1, .long (zJ d)), (3, .int (zI slot))] [.int (zI (zbc (I 119 0))), .long (zJ (d * 31))] 256
    refine z_i2l hG dX4_digest_256 (by omega) ?_
    refine z_ladd hG dX4_digest_257 ?_
    refine z_lstore_n (lv' := [(1, .long (zJ ((d * 31) + (zbc (I 119 0))))), (0, .ref (F.1 110)), (3, .int (zI slot))]) hG dX4_digest_258 rfl (by decide) rfl ?_
    refine z_iconst 0 hG dX4_digest_259 ?_
    refine z_istore_n (lv' := [(3, .int (zI 0)), (1, .long (zJ ((d * 31) + (zbc (I 119 0))))), (0, .ref (F.1 110))]) hG dX4_digest_260 rfl (by decide) rfl ?_
    refine z_perm (lv' := [(0, .ref (F.1 110)), (1, .long (zJ ((d * 31) + (zbc (I 119 0))))), (3, .int (zI 0))]) [2, 1, 0] rfl ?_
    exact k1 c150
  · skip
    refine z_lload_n 1 hG dX4_digest_153 rfl rfl ?_
    refine z_ldc2 31 hG kw971 (by decide) dX4_digest_154 ?_
    refine z_lmul hG dX4_digest_157 ?_
    refine z_aload_n 0 hG dX4_digest_158 rfl rfl ?_
    refine z_getR (t := 120) hG zcl4 (zltM hL (by decide)) (zl110 hL) 15 (by decide) rfl kw692 dX4_digest_159 ?_
    refine z_iload_n 2 hG dX4_digest_162 rfl rfl ?_
    refine z_iald (v := I 120 slot) hG (zltM hL (by decide)) (zl120 hL) (by decide) (by omega) rfl dX4_digest_163 ?_
    refine z_i2l hG dX4_digest_164 (hr _ _) ?_
    refine z_ladd hG dX4_digest_165 ?_
    refine z_ldc2 31 hG kw971 (by decide) dX4_digest_166 ?_
    refine z_lmul hG dX4_digest_169 ?_
    refine z_aload_n 0 hG dX4_digest_170 rfl rfl ?_
    refine z_iload_n 2 hG dX4_digest_171 rfl rfl ?_
    refine z_iconst 0 hG dX4_digest_172 ?_
    refine z_callV [.int (zI slot), .int (zI 0)] hG hR (c_X4_extreme hL hr (by first | assumption | omega | ((try simp only [zup_k, zup_i, zup_at, ne_eq, not_false_eq_true, Nat.reduceEqDiff]); simp only [zup_at]; omega)) (by decide) (by first | assumption | omega | ((try simp only [zup_k, zup_i, zup_at, ne_eq, not_false_eq_true, Nat.reduceEqDiff]); simp only [zup_at]; omega)) (hu () c150).1) hd_X4_extreme kw886 kw888 kp36 rfl (zltM hL (by decide)) (zl110 hL) (by decide) (by decide) (by decide) (by decide) rfl rfl (Nat.le_of_ble_eq_true rfl) dX4_digest_173 (fun r I' hp => ?_)
    rw [hp.1, hp.2]
    have ha173_0 : -2147483648 ≤ (zme (I 122) (I 117) slot 0 (I 110 3).toNat) ∧ (zme (I 122) (I 117) slot 0 (I 110 3).toNat) < 2147483648 := zme_rg hr _
    show zW G F 0 0 I [(0, .ref (F.1 110)), (1, .long (zJ d)), (3, .int (zI slot))] [.int (zI (zme (I 122) (I 117) slot 0 (I 110 3).toNat)), .long (zJ (((d * 31) + (I 120 slot)) * 31))] 176
    refine z_i2l hG dX4_digest_176 (by omega) ?_
    refine z_ladd hG dX4_digest_177 ?_
    refine z_ldc2 31 hG kw971 (by decide) dX4_digest_178 ?_
    refine z_lmul hG dX4_digest_181 ?_
    refine z_aload_n 0 hG dX4_digest_182 rfl rfl ?_
    refine z_iload_n 2 hG dX4_digest_183 rfl rfl ?_
    refine z_iconst 1 hG dX4_digest_184 ?_
    refine z_callV [.int (zI slot), .int (zI 1)] hG hR (c_X4_extreme hL hr (by first | assumption | omega | ((try simp only [zup_k, zup_i, zup_at, ne_eq, not_false_eq_true, Nat.reduceEqDiff]); simp only [zup_at]; omega)) (by decide) (by first | assumption | omega | ((try simp only [zup_k, zup_i, zup_at, ne_eq, not_false_eq_true, Nat.reduceEqDiff]); simp only [zup_at]; omega)) (hu () c150).1) hd_X4_extreme kw886 kw888 kp36 rfl (zltM hL (by decide)) (zl110 hL) (by decide) (by decide) (by decide) (by decide) rfl rfl (Nat.le_of_ble_eq_true rfl) dX4_digest_185 (fun r I' hp => ?_)
    rw [hp.1, hp.2]
    have ha185_0 : -2147483648 ≤ (zme (I 122) (I 117) slot 1 (I 110 3).toNat) ∧ (zme (I 122) (I 117) slot 1 (I 110 3).toNat) < 2147483648 := zme_rg hr _
    show zW G F 0 0 I [(0, .ref (F.1 110)), (1, .long (zJ d)), (3, .int (zI slot))] [.int (zI (zme (I 122) (I 117) slot 1 (I 110 3).toNat)), .long (zJ (((((d * 31) + (I 120 slot)) * 31) + (zme (I 122) (I 117) slot 0 (I 110 3).toNat)) * 31))] 188
    refine z_i2l hG dX4_digest_188 (by omega) ?_
    refine z_ladd hG dX4_digest_189 ?_
    refine z_lstore_n (lv' := [(1, .long (zJ ((((((d * 31) + (I 120 slot)) * 31) + (zme (I 122) (I 117) slot 0 (I 110 3).toNat)) * 31) + (zme (I 122) (I 117) slot 1 (I 110 3).toNat)))), (0, .ref (F.1 110)), (3, .int (zI slot))]) hG dX4_digest_190 rfl (by decide) rfl ?_
    refine z_lload_n 0 hG dX4_digest_191 rfl rfl ?_
    refine z_ldc2 31 hG kw971 (by decide) dX4_digest_192 ?_
    refine z_lmul hG dX4_digest_195 ?_
    refine z_aload_n 1 hG dX4_digest_196 rfl rfl ?_
    refine z_iconst 0 hG dX4_digest_197 ?_
    refine z_iload_n 2 hG dX4_digest_198 rfl rfl ?_
    refine z_callV [.int (zI 0), .int (zI slot)] hG hR (c_X4_usesOf hL hr (by first | assumption | omega | ((try simp only [zup_k, zup_i, zup_at, ne_eq, not_false_eq_true, Nat.reduceEqDiff]); simp only [zup_at]; omega)) (by first | assumption | omega | ((try simp only [zup_k, zup_i, zup_at, ne_eq, not_false_eq_true, Nat.reduceEqDiff]); simp only [zup_at]; omega)) (by first | assumption | omega | ((try simp only [zup_k, zup_i, zup_at, ne_eq, not_false_eq_true, Nat.reduceEqDiff]); simp only [zup_at]; omega))) hd_X4_usesOf kw840 kw842 kp30 rfl (zltM hL (by decide)) (zl110 hL) (by decide) (by decide) (by decide) (by decide) rfl rfl (Nat.le_of_ble_eq_true rfl) dX4_digest_199 (fun r I' hp => ?_)
    rw [hp.1, hp.2]
    have ha199_0 : 0 ≤ (zmu (I 122) 0 slot (I 110 3).toNat) ∧ (zmu (I 122) 0 slot (I 110 3).toNat) ≤ (I 110 3).toNat := zmu_bd _ _ _ _
    show zW G F 0 0 I [(1, .long (zJ ((((((d * 31) + (I 120 slot)) * 31) + (zme (I 122) (I 117) slot 0 (I 110 3).toNat)) * 31) + (zme (I 122) (I 117) slot 1 (I 110 3).toNat)))), (0, .ref (F.1 110)), (3, .int (zI slot))] [.int (zI (zmu (I 122) 0 slot (I 110 3).toNat)), .long (zJ (((((((d * 31) + (I 120 slot)) * 31) + (zme (I 122) (I 117) slot 0 (I 110 3).toNat)) * 31) + (zme (I 122) (I 117) slot 1 (I 110 3).toNat)) * 31))] 202
    refine z_i2l hG dX4_digest_202 (by omega) ?_
    refine z_ladd hG dX4_digest_203 ?_
    refine z_ldc2 31 hG kw971 (by decide) dX4_digest_204 ?_
    refine z_lmul hG dX4_digest_207 ?_
    refine z_aload_n 1 hG dX4_digest_208 rfl rfl ?_
    refine z_getR (t := 121) hG zcl4 (zltM hL (by decide)) (zl110 hL) 16 (by decide) rfl kw693 dX4_digest_209 ?_
    refine z_iload_n 2 hG dX4_digest_212 rfl rfl ?_
    refine z_iald (v := I 121 slot) hG (zltM hL (by decide)) (zl121 hL) (by decide) (by omega) rfl dX4_digest_213 ?_
    refine z_iconst (-1) hG dX4_digest_214 ?_
    refine z_icmp_ne (tgt := 222) hG dX4_digest_215 (by decide) (hr _ _) (by decide) (fun c215 => ?_) (fun c215 => ?_)
    · skip
      have q9 := (hu () c150).2 c215
      refine z_aload_n 1 hG dX4_digest_222 rfl rfl ?_
      refine z_getR (t := 117) hG zcl4 (zltM hL (by decide)) (zl110 hL) 9 (by decide) rfl kw686 dX4_digest_223 ?_
      refine z_aload_n 1 hG dX4_digest_226 rfl rfl ?_
      refine z_getR (t := 121) hG zcl4 (zltM hL (by decide)) (zl110 hL) 16 (by decide) rfl kw693 dX4_digest_227 ?_
      refine z_iload_n 2 hG dX4_digest_230 rfl rfl ?_
      refine z_iald (v := I 121 slot) hG (zltM hL (by decide)) (zl121 hL) (by decide) (by omega) rfl dX4_digest_231 ?_
      refine z_iald (v := I 117 (I 121 slot)) hG (zltM hL (by decide)) (zl117 hL) (by decide) (by omega) rfl dX4_digest_232 ?_
      refine z_i2l hG dX4_digest_233 (hr _ _) ?_
      refine z_ladd hG dX4_digest_234 ?_
      refine z_lstore_n (lv' := [(1, .long (zJ ((((((((((d * 31) + (I 120 slot)) * 31) + (zme (I 122) (I 117) slot 0 (I 110 3).toNat)) * 31) + (zme (I 122) (I 117) slot 1 (I 110 3).toNat)) * 31) + (zmu (I 122) 0 slot (I 110 3).toNat)) * 31) + (I 117 (I 121 slot))))), (0, .ref (F.1 110)), (3, .int (zI slot))]) hG dX4_digest_235 rfl (by decide) rfl ?_
      refine z_iinc (lv' := [(3, .int (zI (slot + 1))), (1, .long (zJ ((((((((((d * 31) + (I 120 slot)) * 31) + (zme (I 122) (I 117) slot 0 (I 110 3).toNat)) * 31) + (zme (I 122) (I 117) slot 1 (I 110 3).toNat)) * 31) + (zmu (I 122) 0 slot (I 110 3).toNat)) * 31) + (I 117 (I 121 slot))))), (0, .ref (F.1 110))]) 2 hG dX4_digest_236 rfl (by decide) rfl ?_
      refine z_goto (tgt := 143) hG dX4_digest_239 (by decide) ?_
      refine z_perm (lv' := [(0, .ref (F.1 110)), (1, .long (zJ ((((((((((d * 31) + (I 120 slot)) * 31) + (zme (I 122) (I 117) slot 0 (I 110 3).toNat)) * 31) + (zme (I 122) (I 117) slot 1 (I 110 3).toNat)) * 31) + (zmu (I 122) 0 slot (I 110 3).toNat)) * 31) + (I 117 (I 121 slot))))), (3, .int (zI (slot + 1)))]) [2, 1, 0] rfl ?_
      exact k2 c150 c215
    · skip
      refine z_iconst (-1) hG dX4_digest_218 ?_
      refine z_goto (tgt := 233) hG dX4_digest_219 (by decide) ?_
      refine z_i2l hG dX4_digest_233 (by decide) ?_
      refine z_ladd hG dX4_digest_234 ?_
      refine z_lstore_n (lv' := [(1, .long (zJ ((((((((((d * 31) + (I 120 slot)) * 31) + (zme (I 122) (I 117) slot 0 (I 110 3).toNat)) * 31) + (zme (I 122) (I 117) slot 1 (I 110 3).toNat)) * 31) + (zmu (I 122) 0 slot (I 110 3).toNat)) * 31) + (-1)))), (0, .ref (F.1 110)), (3, .int (zI slot))]) hG dX4_digest_235 rfl (by decide) rfl ?_
      refine z_iinc (lv' := [(3, .int (zI (slot + 1))), (1, .long (zJ ((((((((((d * 31) + (I 120 slot)) * 31) + (zme (I 122) (I 117) slot 0 (I 110 3).toNat)) * 31) + (zme (I 122) (I 117) slot 1 (I 110 3).toNat)) * 31) + (zmu (I 122) 0 slot (I 110 3).toNat)) * 31) + (-1)))), (0, .ref (F.1 110))]) 2 hG dX4_digest_236 rfl (by decide) rfl ?_
      refine z_goto (tgt := 143) hG dX4_digest_239 (by decide) ?_
      refine z_perm (lv' := [(0, .ref (F.1 110)), (1, .long (zJ ((((((((((d * 31) + (I 120 slot)) * 31) + (zme (I 122) (I 117) slot 0 (I 110 3).toNat)) * 31) + (zme (I 122) (I 117) slot 1 (I 110 3).toNat)) * 31) + (zmu (I 122) 0 slot (I 110 3).toNat)) * 31) + (-1)))), (3, .int (zI (slot + 1)))]) [2, 1, 0] rfl ?_
      exact k3 c150 c215

set_option maxRecDepth 100000 in
set_option maxHeartbeats 4000000 in
theorem s_X4_digest_261 {G : zCx} {F : zFr} {I : zStore} {post : Option Value → zStore → Prop}{d line : Int} (hG : zOK G "LineLearnerModel" cX4_digest 5) (hR : zRoom G rm_X4_digest) (hE : zRetL G F cX4_digest 0 0 post) (hL : zLayM F) (hr : zRg I) (h1 : 0 ≤ line ∧ line ≤ 12) (hn : 0 ≤ I 110 3 ∧ I 110 3 ≤ 12)
    (k1 : ((I 110 18) = 0) → post (some (.long (zJ d))) I)
    (k2 : ((I 110 18) ≠ 0) → ((I 110 3) ≤ line) → post (some (.long (zJ d))) I)
    (k3 : ((I 110 18) ≠ 0) → (line < (I 110 3)) → zW G F 0 0 I [(0, .ref (F.1 110)), (1, .long (zJ ((d * 31) + (I 123 line)))), (3, .int (zI (line + 1)))] [] 261) :
    zW G F 0 0 I [(0, .ref (F.1 110)), (1, .long (zJ d)), (3, .int (zI line))] [] 261 := by
  refine z_aload_n 0 hG dX4_digest_261 rfl rfl ?_
  refine z_getI (v := I 110 18) hG zcl4 (zltM hL (by decide)) (zl110 hL) 18 (by decide) rfl rfl rfl kw695 dX4_digest_262 ?_
  refine z_if_eq (tgt := 296) hG dX4_digest_265 (by decide) (hr _ _) (fun c265 => ?_) (fun c265 => ?_)
  · skip
    refine z_lload_n 1 hG dX4_digest_296 rfl rfl ?_
    exact hE _ _ _ _ dX4_digest_297 (k1 c265)
  · skip
    refine z_iload_n 2 hG dX4_digest_268 rfl rfl ?_
    refine z_aload_n 0 hG dX4_digest_269 rfl rfl ?_
    refine z_getI (v := I 110 3) hG zcl4 (zltM hL (by decide)) (zl110 hL) 3 (by decide) rfl rfl rfl kw680 dX4_digest_270 ?_
    refine z_icmp_ge (tgt := 296) hG dX4_digest_273 (by decide) (by omega) (hr _ _) (fun c273 => ?_) (fun c273 => ?_)
    · skip
      refine z_lload_n 1 hG dX4_digest_296 rfl rfl ?_
      exact hE _ _ _ _ dX4_digest_297 (k2 c265 c273)
    · skip
      refine z_lload_n 1 hG dX4_digest_276 rfl rfl ?_
      refine z_ldc2 31 hG kw971 (by decide) dX4_digest_277 ?_
      refine z_lmul hG dX4_digest_280 ?_
      refine z_aload_n 0 hG dX4_digest_281 rfl rfl ?_
      refine z_getR (t := 123) hG zcl4 (zltM hL (by decide)) (zl110 hL) 20 (by decide) rfl kw697 dX4_digest_282 ?_
      refine z_iload_n 2 hG dX4_digest_285 rfl rfl ?_
      refine z_iald (v := I 123 line) hG (zltM hL (by decide)) (zl123 hL) (by decide) (by omega) rfl dX4_digest_286 ?_
      refine z_i2l hG dX4_digest_287 (hr _ _) ?_
      refine z_ladd hG dX4_digest_288 ?_
      refine z_lstore_n (lv' := [(1, .long (zJ ((d * 31) + (I 123 line)))), (0, .ref (F.1 110)), (3, .int (zI line))]) hG dX4_digest_289 rfl (by decide) rfl ?_
      refine z_iinc (lv' := [(3, .int (zI (line + 1))), (1, .long (zJ ((d * 31) + (I 123 line)))), (0, .ref (F.1 110))]) 2 hG dX4_digest_290 rfl (by decide) rfl ?_
      refine z_goto (tgt := 261) hG dX4_digest_293 (by decide) ?_
      refine z_perm (lv' := [(0, .ref (F.1 110)), (1, .long (zJ ((d * 31) + (I 123 line)))), (3, .int (zI (line + 1)))]) [2, 1, 0] rfl ?_
      exact k3 c265 c273

theorem zby_m {x : Int64} {s : Int} : zl2i ((zushr x s) &&& (zJ 255)) = zand (zl2i (zushr x s)) 255 := by
  unfold zl2i zand
  rw [Int64.toInt32_and, zI_of]
  rfl
theorem zby_n {x : Int64} {i : Int} : zl2i ((zushr x (56 - 8 * i)) &&& (zJ 255)) = zby x i := zby_m
/-- whether a byte was bad, and how many are no 0, of the first i -/
def zmfe (x : Int64) : Nat → Int × Int
  | 0 => (0, 0)
  | i + 1 => (if zby x i ≠ 0 ∧ ¬ (32 ≤ zby x i ∧ zby x i ≤ 126) then 1 else (zmfe x i).1, (zmfe x i).2 + if zby x i = 0 then 0 else 1)
theorem zmfe_bd (x : Int64) : ∀ i : Nat, (0 ≤ (zmfe x i).1 ∧ (zmfe x i).1 ≤ 1) ∧ 0 ≤ (zmfe x i).2 ∧ (zmfe x i).2 ≤ i
  | 0 => by simp [zmfe]
  | i + 1 => by
    have h := zmfe_bd x i
    simp only [zmfe]
    refine ⟨?_, ?_⟩
    · split
      · decide
      · exact h.1
    · split <;> omega
theorem zmfe_cb (x : Int64) : ∀ i : Nat, zcb x i = if (zmfe x i).1 = 0 then (zmfe x i).2 else (-1)
  | 0 => by simp [zmfe, zcb]
  | i + 1 => by
    have h := zmfe_cb x i
    have hb := zmfe_bd x i
    have hy : zcb x (i + 1) = if zcb x i = (-1) then (-1) else if zby x i = 0 then zcb x i else if 32 ≤ zby x i ∧ zby x i ≤ 126 then zcb x i + 1 else (-1) := rfl
    have e1 : (zmfe x (i + 1)).1 = if zby x i ≠ 0 ∧ ¬ (32 ≤ zby x i ∧ zby x i ≤ 126) then 1 else (zmfe x i).1 := rfl
    have e2 : (zmfe x (i + 1)).2 = (zmfe x i).2 + if zby x i = 0 then 0 else 1 := rfl
    rw [hy, h]
    by_cases h0 : (zmfe x i).1 = 0
    · rw [if_pos h0, if_neg (show ¬ (zmfe x i).2 = (-1) by omega)]
      by_cases h1 : zby x i = 0
      · rw [if_neg (show ¬ (zby x i ≠ 0 ∧ ¬ (32 ≤ zby x i ∧ zby x i ≤ 126)) from fun q => q.1 h1), h0] at e1
        rw [if_pos h1] at e2
        rw [if_pos h1, if_pos e1, e2]
        omega
      · rw [if_neg h1] at e2
        rw [if_neg h1]
        by_cases h2 : 32 ≤ zby x i ∧ zby x i ≤ 126
        · rw [if_neg (show ¬ (zby x i ≠ 0 ∧ ¬ (32 ≤ zby x i ∧ zby x i ≤ 126)) from fun q => q.2 h2), h0] at e1
          rw [if_pos h2, if_pos e1, e2]
        · rw [if_pos (show (zby x i ≠ 0 ∧ ¬ (32 ≤ zby x i ∧ zby x i ≤ 126)) from ⟨h1, h2⟩)] at e1
          rw [if_neg h2, if_neg (by omega)]
    · rw [if_neg h0, if_pos rfl]
      have e3 : (zmfe x (i + 1)).1 ≠ 0 := by
        rw [e1]
        split
        · decide
        · exact h0
      rw [if_neg e3]
/-- the model's store after i bytes were fed -/
def zmfd (I : zStore) (x : Int64) : Nat → zStore
  | 0 => zup I 110 0 0
  | i + 1 => if zby x i = 0 then zmfd I x i else zup (zup (zmfd I x i) 111 (zmfd I x i 110 1) (zby x i)) 110 1 (zmfd I x i 110 1 + 1)
theorem zmfd_n {I : zStore} {x : Int64} : ∀ i : Nat, zcb x i ≠ (-1) → zmfd I x i 110 1 = I 110 1 + zcb x i
  | 0, _ => by
    show zup I 110 0 0 110 1 = I 110 1 + 0
    rw [zup_i (by decide)]
    omega
  | i + 1, h => by
    have h1 := (zcb_mono (x := x) (i := i) 1 h).2
    have ih := zmfd_n (I := I) i h1
    have hs : zcb x (i + 1) = if zcb x i = (-1) then (-1) else if zby x i = 0 then zcb x i else if 32 ≤ zby x i ∧ zby x i ≤ 126 then zcb x i + 1 else (-1) := rfl
    rw [if_neg h1] at hs
    simp only [zmfd]
    by_cases e : zby x i = 0
    · rw [if_pos e] at hs ⊢
      omega
    · rw [if_neg e] at hs ⊢
      rw [zup_at]
      split at hs
      · omega
      · exact absurd hs h
theorem zmfd_rg {I : zStore} {x : Int64} (hr : zRg I) (hb : 0 ≤ I 110 1 ∧ I 110 1 ≤ 30) : ∀ i : Nat, i ≤ 8 → zcb x i ≠ (-1) → zRg (zmfd I x i)
  | 0, _, _ => zRg_up hr (by decide)
  | i + 1, h8, h => by
    have h1 := (zcb_mono (x := x) (i := i) 1 h).2
    have ih := zmfd_rg hr hb i (by omega) h1
    have hn := zmfd_n (I := I) i h1
    have hb2 := zcb_bd x i
    have hy := zby_bd (x := x) (i := i)
    simp only [zmfd]
    split
    · exact ih
    · exact zRg_up (zRg_up ih (by omega)) (by omega)
set_option maxHeartbeats 8000000 in
theorem c_X4_feed {F : zFr} {I : zStore} {x : Int64} (hL : zLayM F) (hr : zRg I) (hb : 0 ≤ I 110 1 ∧ I 110 1 ≤ 30) : ∀ (l : Launch) (D : va_G) (cs : Nat → ClassId), l.stackTraces = false → zMt l yX4_feed cX4_feed 6 (some .int) rm_X4_feed D cs F I [.ref (F.1 110), .long x] (fun r I' => r = some (.int (zI (if zcb x 8 = (-1) then 0 else if 30 < I 110 1 + zcb x 8 then 0 else I 110 1 + zcb x 8))) ∧ I' = (if zcb x 8 = (-1) then zup I 110 0 1 else if 30 < I 110 1 + zcb x 8 then zup I 110 0 2 else zmfd I x 8)) := by
  intro l D cs hst
  refine zMt.ofI hst (by decide +kernel) (Nat.le_of_ble_eq_true rfl) fun G hG hR hE => ?_
  refine s_X4_feed_0 hG hR hE hL hr ?_
  have h8 := zmfe_bd x 8
  have hcb := zmfe_cb x 8
  have h106 : zcb x 8 ≠ (-1) → ¬ (30 < I 110 1 + zcb x 8) → zW G F 0 0 (zup I 110 0 0) [(0, .ref (F.1 110)), (1, .long x), (4, .int (zI 56))] [] 106 := by
    intro e1 e2
    rw [if_neg e1, if_neg e1, if_neg e2, if_neg e2] at hE
    have key : ∀ (d i : Nat), i + d = 8 → zW G F 0 0 (zmfd I x i) [(0, .ref (F.1 110)), (1, .long x), (4, .int (zI (56 - 8 * (i : Int))))] [] 106 := by
      intro d
      induction d with
      | zero =>
        intro i hi
        have e : i = 8 := by omega
        subst e
        have hn := zmfd_n (I := I) 8 e1
        have hb8 := zcb_bd x 8
        exact s_X4_feed_106 hG hR hE hL (zmfd_rg hr hb 8 (by omega) e1) (by omega) (by omega) (fun _ q => absurd q (by omega)) (fun _ => ⟨by rw [hn], rfl⟩) (fun q => absurd q (by omega)) (fun q => absurd q (by omega))
      | succ d ih =>
        intro i hi
        have h := ih (i + 1) (by omega)
        have m1 := zcb_mono (x := x) (i := i) (d + 1) (by rw [hi]; exact e1)
        have m2 := zcb_mono (x := x) (i := i + 1) d (by rw [show i + 1 + d = 8 by omega]; exact e1)
        rw [hi] at m1
        rw [show i + 1 + d = 8 by omega] at m2
        have hn := zmfd_n (I := I) i m1.2
        have hb2 := zcb_bd x i
        have hs : zcb x (i + 1) = if zcb x i = (-1) then (-1) else if zby x i = 0 then zcb x i else if 32 ≤ zby x i ∧ zby x i ≤ 126 then zcb x i + 1 else (-1) := rfl
        rw [if_neg m1.2] at hs
        have hf : zmfd I x (i + 1) = if zby x i = 0 then zmfd I x i else zup (zup (zmfd I x i) 111 (zmfd I x i 110 1) (zby x i)) 110 1 (zmfd I x i 110 1 + 1) := rfl
        rw [hf, show (56 - 8 * ((i + 1 : Nat) : Int)) = 56 - 8 * (i : Int) + (-8) by omega] at h
        have ey := zby_n (x := x) (i := (i : Int))
        refine s_X4_feed_106 hG hR hE hL (zmfd_rg hr hb i (by omega) m1.2) (by omega) (by omega) (fun _ _ e => ?_) (fun q => absurd q (by omega)) (fun _ e => ?_) (fun _ e => ?_)
        all_goals rw [ey] at e
        · rw [if_neg e] at hs
          split at hs
          · omega
          · exact absurd hs m2.2
        · rw [if_neg e] at h
          rw [ey]
          exact h
        · rw [if_pos e] at h
          exact h
    exact key 8 0 (by omega)
  have key : ∀ (d i : Nat), i + d = 8 → zW G F 0 0 (zup I 110 0 (zmfe x i).1) [(0, .ref (F.1 110)), (1, .long x), (3, .int (zI (zmfe x i).2)), (4, .int (zI (56 - 8 * (i : Int))))] [] 11 := by
    intro d
    induction d with
    | zero =>
      intro i hi
      have e : i = 8 := by omega
      subst e
      have hrS : zRg (zup I 110 0 (zmfe x 8).1) := zRg_up hr (by omega)
      refine s_X4_feed_11 hG hR hE hL hrS (by omega) (fun _ => ?_) (by intros; exfalso; omega) (by intros; exfalso; omega) (by intros; exfalso; omega) (by intros; exfalso; omega) (by intros; exfalso; omega) (by intros; exfalso; omega) (by intros; exfalso; omega) (by intros; exfalso; omega)
      generalize zmfe x 8 = p at *
      obtain ⟨th, mn⟩ := p
      dsimp only at *
      have z0 : zup I 110 0 th 110 0 = th := zup_at _ _ _ _
      have z1 : zup I 110 0 th 110 1 = I 110 1 := zup_i (by decide)
      refine s_X4_feed_70 hG hR hE hL hrS (by omega) (by omega) (fun q q2 => absurd q2 q) (fun q _ => ?_) (fun q q2 _ => ?_) (fun q _ q2 => absurd q q2) (fun q q2 _ => ?_)
      · rw [z0] at q
        rw [if_neg q] at hcb
        rw [if_pos hcb, if_pos hcb, show th = 1 by omega]
        exact ⟨rfl, rfl⟩
      · rw [z0] at q
        rw [if_pos q] at hcb
        rw [z1] at q2
        rw [q]
        exact h106 (by omega) (by omega)
      · rw [z0] at q
        rw [if_pos q] at hcb
        rw [z1] at q2
        rw [if_neg (show ¬ zcb x 8 = (-1) by omega), if_neg (show ¬ zcb x 8 = (-1) by omega), if_pos (show 30 < I 110 1 + zcb x 8 by omega), if_pos (show 30 < I 110 1 + zcb x 8 by omega), zup_up]
        exact ⟨rfl, rfl⟩
    | succ d ih =>
      intro i hi
      have hn := ih (i + 1) (by omega)
      have hb2 := zmfe_bd x i
      have ey := zby_n (x := x) (i := (i : Int))
      rw [show (56 - 8 * ((i + 1 : Nat) : Int)) = 56 - 8 * (i : Int) + (-8) by omega] at hn
      simp only [zmfe] at hn
      generalize zmfe x i = p at *
      obtain ⟨th, mn⟩ := p
      dsimp only at *
      refine s_X4_feed_11 hG hR hE hL (zRg_up hr (by omega)) (by omega) (fun q => absurd q (by omega)) (by rw [ey]; intros; first | (exfalso; omega) | (rw [if_neg (by omega), if_pos (by omega)] at hn; exact hn) | (rw [if_neg (by omega), if_neg (by omega)] at hn; exact hn) | (rw [if_pos (by omega), if_neg (by omega)] at hn; rw [zup_up]; exact hn)) (by rw [ey]; intros; first | (exfalso; omega) | (rw [if_neg (by omega), if_pos (by omega)] at hn; exact hn) | (rw [if_neg (by omega), if_neg (by omega)] at hn; exact hn) | (rw [if_pos (by omega), if_neg (by omega)] at hn; rw [zup_up]; exact hn)) (by rw [ey]; intros; first | (exfalso; omega) | (rw [if_neg (by omega), if_pos (by omega)] at hn; exact hn) | (rw [if_neg (by omega), if_neg (by omega)] at hn; exact hn) | (rw [if_pos (by omega), if_neg (by omega)] at hn; rw [zup_up]; exact hn)) (by rw [ey]; intros; first | (exfalso; omega) | (rw [if_neg (by omega), if_pos (by omega)] at hn; exact hn) | (rw [if_neg (by omega), if_neg (by omega)] at hn; exact hn) | (rw [if_pos (by omega), if_neg (by omega)] at hn; rw [zup_up]; exact hn)) (by rw [ey]; intros; first | (exfalso; omega) | (rw [if_neg (by omega), if_pos (by omega)] at hn; exact hn) | (rw [if_neg (by omega), if_neg (by omega)] at hn; exact hn) | (rw [if_pos (by omega), if_neg (by omega)] at hn; rw [zup_up]; exact hn)) (by rw [ey]; intros; first | (exfalso; omega) | (rw [if_neg (by omega), if_pos (by omega)] at hn; exact hn) | (rw [if_neg (by omega), if_neg (by omega)] at hn; exact hn) | (rw [if_pos (by omega), if_neg (by omega)] at hn; rw [zup_up]; exact hn)) (by rw [ey]; intros; first | (exfalso; omega) | (rw [if_neg (by omega), if_pos (by omega)] at hn; exact hn) | (rw [if_neg (by omega), if_neg (by omega)] at hn; exact hn) | (rw [if_pos (by omega), if_neg (by omega)] at hn; rw [zup_up]; exact hn)) (by rw [ey]; intros; first | (exfalso; omega) | (rw [if_neg (by omega), if_pos (by omega)] at hn; exact hn) | (rw [if_neg (by omega), if_neg (by omega)] at hn; exact hn) | (rw [if_pos (by omega), if_neg (by omega)] at hn; rw [zup_up]; exact hn))
  exact key 8 0 (by omega)
/-! store -/
theorem zup_cm {I : zStore} {k k' : Nat} {i j v w : Int} (h : k' ≠ k) : zup (zup I k i v) k' j w = zup (zup I k' j w) k i v := by
  funext a b
  unfold zup
  by_cases h1 : a = k' ∧ b = j
  · rw [if_pos h1, if_neg (by omega), if_pos h1]
  · rw [if_neg h1, if_neg h1]
section ZST
variable {T : zStore} {k na nb nc : Nat} {a b c : Int} {f g h f2 g2 h2 : Nat → Int}
theorem zm3_z {d : Nat} {i v : Int} (hd : d ≠ k) (hd1 : d ≠ k + 1) (hd2 : d ≠ k + 2) : zup (zm3 T k a b c na nb nc f g h) d i v = zm3 (zup T d i v) k a b c na nb nc f g h := by
  unfold zm3
  rw [zup_flc hd2, zup_flc hd1, zup_flc hd]
theorem zm3_cc (hf : ∀ x, x < na → f x = f2 x) (hg : ∀ x, x < nb → g x = g2 x) (hh : ∀ x, x < nc → h x = h2 x) : zm3 T k a b c na nb nc f g h = zm3 T k a b c na nb nc f2 g2 h2 := by
  unfold zm3
  rw [zfl_congr hf, zfl_congr hg, zfl_congr hh]
end ZST
/-- the token rows of the model's new line after k bytes -/
def zmtk (X : zStore) (A : Int) (kd : Nat → Int) (k : Nat) : zStore := zm3 X 115 A A A (zcnt kd k) (zcnt kd k) (zcnt kd k) (zkn kd k) (zsn kd k) (zzn kd k)
theorem zmtk_new {X : zStore} {A a : Int} {kd : Nat → Int} {k : Nat} (hn : znew kd k = true) (ha : a = A + zcnt kd k) : zup (zup (zup (zup (zmtk X A kd k) 115 a (kd k)) 116 a k) 117 a 0) 117 a 1 = zmtk X A kd (k + 1) := by
  have hc : zcnt kd (k + 1) = zcnt kd k + 1 := by simp only [zcnt]; rw [if_pos hn]
  have e1 : zkn kd (k + 1) (zcnt kd k) = kd k := by unfold zkn; rw [if_pos ⟨hn, rfl⟩]
  have e2 : zsn kd (k + 1) (zcnt kd k) = (k : Int) := by unfold zsn; rw [if_pos ⟨hn, rfl⟩]
  have e3 : zzn kd (k + 1) (zcnt kd k) = 1 := by unfold zzn; rw [if_pos hn, if_pos rfl]
  have e : zmtk X A kd k = zm3 X 115 A A A (zcnt kd k) (zcnt kd k) (zcnt kd k) (zkn kd (k + 1)) (zsn kd (k + 1)) (zzn kd (k + 1)) := by
    refine zm3_cc (fun x hx => ?_) (fun x hx => ?_) (fun x hx => ?_)
    · simp only [zkn]; rw [if_neg (by omega)]
    · simp only [zsn]; rw [if_neg (by omega)]
    · simp only [zzn]; rw [if_pos hn, if_neg (by omega)]
  rw [e, zup_up]
  unfold zmtk
  rw [hc]
  rw [zm3_1 e1.symm ha]
  have := zm3_2 (T := X) (k := 115) (a := A) (b := A) (c := A) (na := zcnt kd k + 1) (nb := zcnt kd k) (nc := zcnt kd k) (f := zkn kd (k + 1)) (g := zsn kd (k + 1)) (h := zzn kd (k + 1)) e2.symm ha
  rw [show (116 : Nat) = 115 + 1 from rfl, this]
  exact zm3_3 e3.symm ha
theorem zmtk_old {X : zStore} {A a v : Int} {kd : Nat → Int} {k : Nat} (hn : znew kd k = false) (hp : 0 < zcnt kd k) (ha : a = A + zcnt kd k - 1) (hv : v = zzn kd k (zcnt kd k - 1) + 1) : zup (zmtk X A kd k) 117 a v = zmtk X A kd (k + 1) := by
  have hc : zcnt kd (k + 1) = zcnt kd k := by simp only [zcnt]; rw [hn]; simp
  unfold zmtk
  rw [hc]
  refine (zm3_3s (T := X) (k := 115) (t := zcnt kd k - 1) (by omega) (by omega)).trans (zm3_cc (fun x hx => ?_) (fun x hx => ?_) (fun x hx => ?_))
  · simp only [zkn]; rw [hn]; simp
  · simp only [zsn]; rw [hn]; simp
  · simp only [zzn]; rw [hn]
    by_cases e : x = zcnt kd k - 1
    · rw [if_pos e, if_neg (by decide), if_pos (by omega), hv, e]
    · rw [if_neg e, if_neg (by decide), if_neg (by omega)]
theorem zmtk_0 {X : zStore} {A : Int} {kd : Nat → Int} : zmtk X A kd 0 = X := by
  unfold zmtk zm3
  show zfl (zfl (zfl X 115 A 0 _) 116 A 0 _) 117 A 0 _ = X
  rw [zfl_0, zfl_0, zfl_0]
theorem zmtk_o {X : zStore} {A j : Int} {kd : Nat → Int} {k d : Nat} (h : d ≠ 115) (h1 : d ≠ 116) (h2 : d ≠ 117) : zmtk X A kd k d j = X d j := zm3_o h h1 h2
theorem zmtk_rg {X : zStore} {A : Int} {kd : Nat → Int} (hr : zRg X) (hk : ∀ i, 0 ≤ kd i ∧ kd i ≤ 3) {k : Nat} (h : k ≤ 1000) : zRg (zmtk X A kd k) := zRg_m3 hr (fun x _ => by have := zkn_bd hk k x; omega) (fun x _ => by have := zsn_bd kd k x; omega) (fun x _ => by have := zzn_bd kd k x; omega)
/-- the kinds of the model's buffer; its store after k bytes of the new line, and behind store -/
def zmkd (I : zStore) : Nat → Int := fun i => zkd (I 111 i)
def zmsX (I : zStore) (L z k : Nat) : zStore := zfl (zup (zup I 110 0 0) 112 L z) 113 (30 * L) k (fun i => I 111 i)
def zmsU (I : zStore) (L z k : Nat) : zStore := zup (zmtk (zmsX I L z k) (30 * L) (zmkd I) k) 114 L (zcnt (zmkd I) k)
def zmsto (I : zStore) (L z : Nat) : zStore := zup (zup (zup (zmsU I L z z) 110 1 0) 110 3 (L + 1)) 110 18 0
theorem zmsU_rg {I : zStore} {L z k : Nat} (hr : zRg I) (hz : z ≤ 30) (hk : k ≤ 30) : zRg (zmsU I L z k) := by
  have hc := zcnt_le (zmkd I) k
  refine zRg_up (zmtk_rg (zRg_fl (zRg_up (zRg_up hr (by decide)) (by omega)) fun x _ => hr _ _) (fun i => zkd_bd) (by omega)) (by omega)
set_option maxHeartbeats 8000000 in
theorem c_X4_store {F : zFr} {I : zStore} {L z : Nat} (hL : zLayM F) (hr : zRg I) (hn : I 110 3 = L) (hL2 : L ≤ 12) (hz : I 110 1 = z) (hz2 : z ≤ 30) (hbt : ∀ i : Int, 0 ≤ i → i < z → 0 ≤ I 111 i ∧ I 111 i ≤ 126) : ∀ (l : Launch) (D : va_G) (cs : Nat → ClassId), l.stackTraces = false → zMt l yX4_store cX4_store 5 (some .int) rm_X4_store D cs F I [.ref (F.1 110)] (fun r I' => r = some (.int (zI (if L = 12 then 0 else (L : Int)))) ∧ I' = (if L = 12 then zup I 110 0 1 else zmsto I L z)) := by
  intro l D cs hst
  refine zMt.ofI hst (by decide +kernel) (Nat.le_of_ble_eq_true rfl) fun G hG hR hE => ?_
  refine s_X4_store_0 hG hR hE hL hr (by omega) (by omega) (fun e => ?_) (fun e => ?_)
  · rw [if_neg (by omega), if_neg (by omega)] at hE
    rw [hn, hz]
    have key : ∀ (d k : Nat), k + d = z → zW G F 0 0 (zmsU I L z k) [(0, .ref (F.1 110)), (1, .int (zI (30 * (L : Int)))), (2, .int (zI k))] [] 53 := by
      intro d
      induction d with
      | zero =>
        intro k hk
        have e9 : k = z := by omega
        subst e9
        have o1 : zmsU I L k k 110 1 = k := by
          unfold zmsU zmsX
          rw [zup_k (by decide), zmtk_o (by decide) (by decide) (by decide), zfl_k (by decide), zup_k (by decide), zup_i (by decide)]
          exact hz
        have o3 : zmsU I L k k 110 3 = L := by
          unfold zmsU zmsX
          rw [zup_k (by decide), zmtk_o (by decide) (by decide) (by decide), zfl_k (by decide), zup_k (by decide), zup_i (by decide)]
          exact hn
        have o11 : ∀ i, zmsU I L k k 111 i = I 111 i := fun i => by
          unfold zmsU zmsX
          rw [zup_k (by decide), zmtk_o (by decide) (by decide) (by decide), zfl_k (by decide), zup_k (by decide), zup_k (by decide)]
        refine s_X4_store_53 hG hR hE hL (zmsU_rg hr hz2 hz2) (by omega) (by omega) (by omega) (fun i h1 h2 => by rw [o11]; rw [o1] at h2; exact hbt i h1 h2) (by omega) (fun _ => ⟨?_, ?_⟩) (fun q => absurd q (by omega)) (fun q => absurd q (by omega)) (fun q => absurd q (by omega)) (fun q => absurd q (by omega))
        · rw [o3, show (L : Int) + 1 - 1 = L by omega]
        · rw [o3]
          rfl
      | succ d ih =>
        intro k hk
        have h := ih (k + 1) (by omega)
        have o1 : zmsU I L z k 110 1 = z := by
          unfold zmsU zmsX
          rw [zup_k (by decide), zmtk_o (by decide) (by decide) (by decide), zfl_k (by decide), zup_k (by decide), zup_i (by decide)]
          exact hz
        have o3 : zmsU I L z k 110 3 = L := by
          unfold zmsU zmsX
          rw [zup_k (by decide), zmtk_o (by decide) (by decide) (by decide), zfl_k (by decide), zup_k (by decide), zup_i (by decide)]
          exact hn
        have o11 : ∀ i, zmsU I L z k 111 i = I 111 i := fun i => by
          unfold zmsU zmsX
          rw [zup_k (by decide), zmtk_o (by decide) (by decide) (by decide), zfl_k (by decide), zup_k (by decide), zup_k (by decide)]
        have hcl := zcnt_le (zmkd I) k
        -- with the byte's text
        obtain ⟨V, hV⟩ : ∃ V, V = zup (zmtk (zmsX I L z (k + 1)) (30 * L) (zmkd I) k) 114 L (zcnt (zmkd I) k) := ⟨_, rfl⟩
        have eV : zup (zmsU I L z k) 113 (30 * (L : Int) + k) (I 111 k) = V := by
          rw [hV]
          unfold zmsU
          rw [zup_cm (by decide)]
          congr 1
          unfold zmtk
          rw [zm3_z (by decide) (by decide) (by decide)]
          congr 1
          exact zfl_up rfl rfl
        have vr : zRg V := by
          rw [← eV]
          exact zRg_up (zmsU_rg hr hz2 (by omega)) (hr _ _)
        have v3 : V 110 3 = L := by rw [← eV, zup_k (by decide)]; exact o3
        have v14 : V 114 L = zcnt (zmkd I) k := by rw [hV, zup_at]
        have v17 : ∀ j, V 117 j = zmtk (zmsX I L z (k + 1)) (30 * L) (zmkd I) k 117 j := fun j => by rw [hV, zup_k (by decide)]
        have hkn : zmkd I k = zkd (I 111 k) := rfl
        have go : ∀ b : Int, (b = 0 ↔ znew (zmkd I) k = true) → (b = 0 ∨ b = 1) → zW G F 0 0 V [(0, .ref (F.1 110)), (1, .int (zI (30 * (L : Int)))), (2, .int (zI k)), (3, .int (zI (zkd (I 111 k)))), (4, .int (zI b))] [] 116 := by
          intro b hb hb2
          refine s_X4_store_116 hG hR hE hL vr (by omega) (by omega) (by rw [v3, v14]; omega) (by omega) (fun q => ?_) (fun q => ?_)
          · have hnw : znew (zmkd I) k = false := Bool.eq_false_iff.mpr fun q2 => q (hb.mpr q2)
            have hk0 : 0 < k := by
              rcases k with _ | k
              · exact absurd (show znew (zmkd I) 0 = true by simp [znew]) (by rw [hnw]; decide)
              · omega
            have hp := zcnt_pos (zmkd I) k hk0
            refine s_X4_store_185 hG hR hE hL vr (by omega) (by omega) (by rw [v3, v14]; omega) ?_
            rw [v3, v14, v17]
            have hr7 : zmtk (zmsX I L z (k + 1)) (30 * L) (zmkd I) k 117 (30 * (L : Int) + zcnt (zmkd I) k - 1) = zzn (zmkd I) k (zcnt (zmkd I) k - 1) := by
              unfold zmtk
              exact zm3_r3 (k := 115) (x := zcnt (zmkd I) k - 1) (by omega) (by omega)
            have hc : zcnt (zmkd I) (k + 1) = zcnt (zmkd I) k := by simp only [zcnt]; rw [hnw]; simp
            have e5 : zup V 117 (30 * (L : Int) + zcnt (zmkd I) k - 1) (zmtk (zmsX I L z (k + 1)) (30 * L) (zmkd I) k 117 (30 * (L : Int) + zcnt (zmkd I) k - 1) + 1) = zmsU I L z (k + 1) := by
              rw [hV, zup_cm (by decide), zmtk_old hnw hp rfl (by rw [hr7])]
              unfold zmsU
              rw [hc]
            rw [e5]
            exact h
          · have hnw := hb.mp q
            have hc : zcnt (zmkd I) (k + 1) = zcnt (zmkd I) k + 1 := by simp only [zcnt]; rw [if_pos hnw]
            rw [v3, v14]
            obtain ⟨W, hW⟩ : ∃ W, W = zup (zup (zup (zmtk (zmsX I L z (k + 1)) (30 * L) (zmkd I) k) 115 (30 * (L : Int) + zcnt (zmkd I) k) (zkd (I 111 k))) 116 (30 * (L : Int) + zcnt (zmkd I) k) k) 117 (30 * (L : Int) + zcnt (zmkd I) k) 0 := ⟨_, rfl⟩
            have e4 : zup (zup (zup (zup V 115 (30 * (L : Int) + zcnt (zmkd I) k) (zkd (I 111 k))) 116 (30 * (L : Int) + zcnt (zmkd I) k) k) 117 (30 * (L : Int) + zcnt (zmkd I) k) 0) 114 L (zcnt (zmkd I) k + 1) = zup W 114 L (zcnt (zmkd I) k + 1) := by
              rw [hV, hW, zup_cm (k := 114) (k' := 115) (by decide), zup_cm (k := 114) (k' := 116) (by decide), zup_cm (k := 114) (k' := 117) (by decide), zup_up]
            have hkd3 := zkd_bd (c := I 111 k)
            have wr : zRg (zup W 114 L (zcnt (zmkd I) k + 1)) := by
              rw [← e4]
              exact zRg_up (zRg_up (zRg_up (zRg_up vr (by omega)) (by omega)) (by decide)) (by omega)
            rw [e4]
            have w3 : zup W 114 L (zcnt (zmkd I) k + 1) 110 3 = L := by
              rw [zup_k (by decide), hW, zup_k (by decide), zup_k (by decide), zup_k (by decide), zmtk_o (by decide) (by decide) (by decide)]
              unfold zmsX
              rw [zfl_k (by decide), zup_k (by decide), zup_i (by decide)]
              exact hn
            have w14 : zup W 114 L (zcnt (zmkd I) k + 1) 114 L = zcnt (zmkd I) k + 1 := zup_at _ _ _ _
            refine s_X4_store_185 hG hR hE hL wr (by omega) (by omega) (by rw [w3, w14]; omega) ?_
            rw [w3, w14]
            have w17 : zup W 114 L (zcnt (zmkd I) k + 1) 117 (30 * (L : Int) + ((zcnt (zmkd I) k : Int) + 1) - 1) = 0 := by
              rw [zup_k (by decide), hW, show 30 * (L : Int) + ((zcnt (zmkd I) k : Int) + 1) - 1 = 30 * (L : Int) + zcnt (zmkd I) k by omega, zup_at]
            rw [w17]
            have e5 : zup (zup W 114 L (zcnt (zmkd I) k + 1)) 117 (30 * (L : Int) + ((zcnt (zmkd I) k : Int) + 1) - 1) (0 + 1) = zmsU I L z (k + 1) := by
              rw [zup_cm (by decide), hW, show 30 * (L : Int) + ((zcnt (zmkd I) k : Int) + 1) - 1 = 30 * (L : Int) + zcnt (zmkd I) k by omega]
              have := zmtk_new (X := zmsX I L z (k + 1)) (A := 30 * L) (kd := zmkd I) (k := k) (a := 30 * (L : Int) + zcnt (zmkd I) k) hnw rfl
              rw [hkn] at this
              rw [show (0 : Int) + 1 = 1 from rfl, this]
              unfold zmsU
              rw [hc]
              rfl
            rw [e5]
            exact h
        have e11 : zmsU I L z k 111 k = I 111 k := o11 k
        have e12 : zmsU I L z k 111 ((k : Int) - 1) = I 111 ((k : Int) - 1) := o11 _
        have nw : znew (zmkd I) k = decide (k = 0 ∨ zkd (I 111 k) = 3 ∨ zkd (I 111 k) ≠ zkd (I 111 ((k - 1 : Nat) : Int))) := rfl
        refine s_X4_store_53 hG hR hE hL (zmsU_rg hr hz2 (by omega)) (by omega) (by omega) (by omega) (fun i h1 h2 => by rw [o11]; rw [o1] at h2; exact hbt i h1 h2) (by omega) (fun q => absurd q (by omega)) (fun _ q => ?_) (fun _ q q2 => ?_) (fun _ q q2 q3 => ?_) (fun _ q q2 q3 => ?_)
        all_goals rw [e11, eV]
        · exact go 0 ⟨fun _ => by rw [nw]; exact decide_eq_true (Or.inl (by omega)), fun _ => rfl⟩ (Or.inl rfl)
        · rw [e11] at q2
          exact go 0 ⟨fun _ => by rw [nw]; exact decide_eq_true (Or.inr (Or.inl q2)), fun _ => rfl⟩ (Or.inl rfl)
        · rw [e11] at q2 q3
          rw [e12] at q3
          exact go 0 ⟨fun _ => by rw [nw]; exact decide_eq_true (Or.inr (Or.inr (fun p => q3 (by rw [p]; congr 2; omega)))), fun _ => rfl⟩ (Or.inl rfl)
        · rw [e11] at q2 q3
          rw [e12] at q3
          refine go 1 ⟨fun p => absurd p (by decide), fun p => ?_⟩ (Or.inr rfl)
          rw [nw] at p
          rcases of_decide_eq_true p with p | p | p
          · omega
          · exact absurd p q2
          · exact absurd (show zkd (I 111 k) = zkd (I 111 ((k - 1 : Nat) : Int)) by rw [← q3]; congr 2; omega) p
    have h0 := key z 0 (by omega)
    have e0 : zmsU I L z 0 = zup (zup (zup I 110 0 0) 112 L z) 114 L 0 := by
      unfold zmsU
      rw [zmtk_0]
      unfold zmsX
      rw [zfl_0]
      rfl
    rw [e0] at h0
    exact h0
  · rw [if_pos (by omega), if_pos (by omega)]
    exact ⟨rfl, zup_up _ _ _ _ _⟩
/-! digest -/
def zmdl (I : zStore) (line d : Int) : Nat → Int
  | 0 => d
  | i + 1 => zmdl I line d i * 31 + I 113 (30 * line + i)
def zmdL (I : zStore) (st : Int) : Nat → Int
  | 0 => st
  | l + 1 => zmdl I l (zmdL I st l * 31 + I 112 l) (I 112 l).toNat
def zmdS (I : zStore) (st : Int) : Nat → Int
  | 0 => st
  | s + 1 => ((((((((((zmdS I st s) * 31) + (I 120 s)) * 31) + (zme (I 122) (I 117) s 0 (I 110 3).toNat)) * 31) + (zme (I 122) (I 117) s 1 (I 110 3).toNat)) * 31) + (zmu (I 122) 0 s (I 110 3).toNat)) * 31) + (if I 121 s = (-1) then (-1) else I 117 (I 121 s))
def zmdG (I : zStore) (d : Int) : Nat → Int
  | 0 => d
  | l + 1 => zmdG I d l * 31 + I 123 l
def zmdc (I : zStore) (N : Nat) : Int := (((((zmdL I ((4619 + I 110 1) * 31 + I 110 3) N * 31 + I 110 10) * 31) + I 110 11) * 31) + I 110 12) * 31 + I 118 0
def zmdig (I : zStore) (N n : Nat) : Int := if I 110 18 = 0 then zmdS I (zmdc I N) n * 31 + zbc (I 119 0) else zmdG I (zmdS I (zmdc I N) n * 31 + zbc (I 119 0)) N
set_option maxHeartbeats 8000000 in
theorem c_X4_digest {F : zFr} {I : zStore} {N n : Nat} (hL : zLayM F) (hr : zRg I) (hN : I 110 3 = N) (hN2 : N ≤ 12) (hn : I 118 0 = n) (hn2 : n ≤ 40) (hk : 0 ≤ I 119 0 ∧ I 119 0 < 4096) (hz : ∀ l : Int, 0 ≤ l → l < N → 0 ≤ I 112 l ∧ I 112 l ≤ 30) (hu : ∀ slot : Nat, slot < n → (∀ l : Int, 0 ≤ l → l < I 110 3 → I 122 (12 * (40 * 0 + (slot : Int)) + l) ≠ (-1) → 0 ≤ I 122 (12 * (40 * 0 + (slot : Int)) + l) ∧ I 122 (12 * (40 * 0 + (slot : Int)) + l) < 30) ∧ (I 121 slot ≠ (-1) → 0 ≤ I 121 slot ∧ I 121 slot < 360)) : ∀ (l : Launch) (D : va_G) (cs : Nat → ClassId), l.stackTraces = false → zMt l yX4_digest cX4_digest 5 (some .long) rm_X4_digest D cs F I [.ref (F.1 110)] (fun r I' => r = some (.long (zJ (zmdig I N n))) ∧ I' = zup I 110 0 0) := by
  intro l D cs hst
  refine zMt.ofL hst (by decide +kernel) (Nat.le_of_ble_eq_true rfl) fun G hG hR hE => ?_
  refine s_X4_digest_0 hG hR hE hL hr ?_
  have hrJ : zRg (zup I 110 0 0) := zRg_up hr (by decide)
  have a3 : zup I 110 0 0 110 3 = N := (zup_i (by decide)).trans hN
  have a0 : zup I 110 0 0 118 0 = n := (zup_k (by decide)).trans hn
  have a12 : ∀ j, zup I 110 0 0 112 j = I 112 j := fun j => zup_k (by decide)
  have a18 : zup I 110 0 0 110 18 = I 110 18 := zup_i (by decide)
  have hG1 : ∀ (d0 : Int), zmdS I (zmdc I N) n * 31 + zbc (I 119 0) = d0 → zW G F 0 0 (zup I 110 0 0) [(0, .ref (F.1 110)), (1, .long (zJ d0)), (3, .int (zI 0))] [] 261 := by
    intro d0 hd0
    unfold zmdig at hE
    rw [hd0] at hE
    by_cases h18 : I 110 18 = 0
    · rw [if_pos h18] at hE
      exact s_X4_digest_261 hG hR hE hL hrJ (by omega) (by omega) (fun _ => ⟨rfl, rfl⟩) (fun q => absurd (a18.trans h18) q) (fun q => absurd (a18.trans h18) q)
    · rw [if_neg h18] at hE
      have key : ∀ (d i : Nat), i + d = N → zW G F 0 0 (zup I 110 0 0) [(0, .ref (F.1 110)), (1, .long (zJ (zmdG I d0 i))), (3, .int (zI i))] [] 261 := by
        intro d
        induction d with
        | zero =>
          intro i hi
          have e : i = N := by omega
          subst e
          exact s_X4_digest_261 hG hR hE hL hrJ (by omega) (by omega) (fun q => absurd (a18.symm.trans q) h18) (fun _ _ => ⟨rfl, rfl⟩) (fun _ q => absurd q (by omega))
        | succ d ih =>
          intro i hi
          exact s_X4_digest_261 hG hR hE hL hrJ (by omega) (by omega) (fun q => absurd (a18.symm.trans q) h18) (fun _ q => absurd q (by omega)) (fun _ _ => ih (i + 1) (by omega))
      exact key N 0 (by omega)
  have hS1 : ∀ (d i : Nat), i + d = n → zW G F 0 0 (zup I 110 0 0) [(0, .ref (F.1 110)), (1, .long (zJ (zmdS I (zmdc I N) i))), (3, .int (zI i))] [] 143 := by
    intro d
    induction d with
    | zero =>
      intro i hi
      have e : i = n := by omega
      subst e
      exact s_X4_digest_143 hG hR hE hL hrJ (by omega) (by omega) (by omega) hk (fun _ q => absurd q (by omega)) (fun _ => hG1 _ rfl) (fun q => absurd q (by omega)) (fun q => absurd q (by omega))
    | succ d ih =>
      intro i hi
      have h := ih (i + 1) (by omega)
      simp only [zmdS] at h
      refine s_X4_digest_143 hG hR hE hL hrJ (by omega) (by omega) (by omega) hk (fun _ _ => hu i (by omega)) (fun q => absurd q (by omega)) (fun _ q => ?_) (fun _ q => ?_)
      · rw [if_neg (show ¬ I 121 i = (-1) from q)] at h
        exact h
      · rw [if_pos (show I 121 i = (-1) from q)] at h
        exact h
  have hL1 : ∀ (d i : Nat), i + d = N → zW G F 0 0 (zup I 110 0 0) [(0, .ref (F.1 110)), (1, .long (zJ (zmdL I ((4619 + I 110 1) * 31 + I 110 3) i))), (3, .int (zI i))] [] 27 := by
    intro d
    induction d with
    | zero =>
      intro i hi
      have e : i = N := by omega
      subst e
      exact s_X4_digest_27 hG hR hE hL hrJ (by omega) (by omega) (fun _ => hS1 n 0 (by omega)) (fun q => absurd q (by omega))
    | succ d ih =>
      intro i hi
      have h := ih (i + 1) (by omega)
      simp only [zmdL] at h
      have hzi := hz i (by omega) (by omega)
      refine s_X4_digest_27 hG hR hE hL hrJ (by omega) (by omega) (fun q => absurd q (by omega)) (fun _ => ?_)
      have inner : ∀ (e k : Nat), k + e = (I 112 i).toNat → zW G F 0 0 (zup I 110 0 0) [(0, .ref (F.1 110)), (1, .long (zJ (zmdl I i (zmdL I ((4619 + I 110 1) * 31 + I 110 3) i * 31 + I 112 i) k))), (3, .int (zI i)), (4, .int (zI k))] [] 52 := by
        intro e
        induction e with
        | zero =>
          intro k hk
          have e9 : (I 112 i).toNat = k := by omega
          rw [e9] at h
          have ha := a12 i
          exact s_X4_digest_52 hG hR hE hL hrJ (by omega) (by omega) (by omega) (fun _ => h) (fun q => absurd q (by omega))
        | succ e ih2 =>
          intro k hk
          have ha := a12 i
          exact s_X4_digest_52 hG hR hE hL hrJ (by omega) (by omega) (by omega) (fun q => absurd q (by omega)) (fun _ => ih2 (k + 1) (by omega))
      exact inner (I 112 i).toNat 0 (by omega)
  exact hL1 N 0 (by omega)
