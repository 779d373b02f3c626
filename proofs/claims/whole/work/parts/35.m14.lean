abbrev rm_X3_addLines : Room := { frames := 1, cells := 0, slots := 0, locals := 22 }
set_option maxRecDepth 100000 in
set_option maxHeartbeats 4000000 in
theorem s_X3_addLines_0 {G : zCx} {F : zFr} {I : zStore} {post : Option Value → zStore → Prop}{st : Int} (hG : zOK G "LineLearner" cX3_addLines 8) (hR : zRoom G rm_X3_addLines) (hE : zRetL G F cX3_addLines 0 0 post) (hL : zLay F) (hr : zRg I)
    (k1 : zW G F 0 0 I [(0, .ref (F.1 0)), (1, .long (zJ st)), (3, .long (zJ ((st * 31) + (I 2 0)))), (5, .int (zI 0))] [] 15) :
    zW G F 0 0 I [(0, .ref (F.1 0)), (1, .long (zJ st))] [] 0 := by
  have q9 := hr 2 0
  refine z_lload_n 1 hG dX3_addLines_0 rfl rfl ?_
  refine z_aload_n 0 hG dX3_addLines_1 rfl rfl ?_
  refine z_getR (t := 2) hG zcl3 (zlt hL (by decide)) (zl0 hL) 2 (by decide) rfl kw161 dX3_addLines_2 ?_
  refine z_getIN (v := I 2 0) hG zcl2 (zlt hL (by decide)) (zl2 hL) 0 (by decide) rfl rfl rfl kw29 dX3_addLines_5 ?_
  refine z_callS [.long (zJ st), .int (zI (I 2 0))] hG hR (c_X3_mixed hr (by omega)) hd_X3_mixed kw268 kw269 (by decide) (by decide) (by decide) (by decide) rfl rfl (Nat.le_of_ble_eq_true rfl) dX3_addLines_8 (fun r I' hp => ?_)
  rw [hp.1, hp.2]
  show zW G F 0 0 I [(0, .ref (F.1 0)), (1, .long (zJ st))] [.long (zJ ((st * 31) + (I 2 0)))] 11
  refine z_lstore_n (lv' := [(3, .long (zJ ((st * 31) + (I 2 0)))), (0, .ref (F.1 0)), (1, .long (zJ st))]) hG dX3_addLines_11 rfl (by decide) rfl ?_
  refine z_iconst 0 hG dX3_addLines_12 ?_
  refine z_istore (lv' := [(5, .int (zI 0)), (3, .long (zJ ((st * 31) + (I 2 0)))), (0, .ref (F.1 0)), (1, .long (zJ st))]) hG dX3_addLines_13 (by decide) rfl ?_
  refine z_perm (lv' := [(0, .ref (F.1 0)), (1, .long (zJ st)), (3, .long (zJ ((st * 31) + (I 2 0)))), (5, .int (zI 0))]) [2, 3, 1, 0] rfl ?_
  exact k1

set_option maxRecDepth 100000 in
set_option maxHeartbeats 4000000 in
theorem s_X3_addLines_15 {G : zCx} {F : zFr} {I : zStore} {post : Option Value → zStore → Prop}{st d line : Int} (hG : zOK G "LineLearner" cX3_addLines 8) (hR : zRoom G rm_X3_addLines) (hE : zRetL G F cX3_addLines 0 0 post) (hL : zLay F) (hr : zRg I) (h1 : 0 ≤ line ∧ line ≤ 12 ∧ I 2 0 ≤ 12)
    (k1 : ((I 2 0) ≤ line) → post (some (.long (zJ d))) I)
    (k2 : (line < (I 2 0)) → zW G F 0 0 I [(0, .ref (F.1 0)), (1, .long (zJ st)), (3, .long (zJ ((d * 31) + (I 3 line)))), (5, .int (zI line)), (6, .int (zI (I 3 line))), (7, .int (zI 0))] [] 49) :
    zW G F 0 0 I [(0, .ref (F.1 0)), (1, .long (zJ st)), (3, .long (zJ d)), (5, .int (zI line))] [] 15 := by
  refine z_iload 3 hG dX3_addLines_15 rfl ?_
  refine z_aload_n 0 hG dX3_addLines_17 rfl rfl ?_
  refine z_getR (t := 2) hG zcl3 (zlt hL (by decide)) (zl0 hL) 2 (by decide) rfl kw161 dX3_addLines_18 ?_
  refine z_getIN (v := I 2 0) hG zcl2 (zlt hL (by decide)) (zl2 hL) 0 (by decide) rfl rfl rfl kw29 dX3_addLines_21 ?_
  refine z_icmp_ge (tgt := 89) hG dX3_addLines_24 (by decide) (by omega) (hr _ _) (fun c24 => ?_) (fun c24 => ?_)
  · skip
    refine z_lload_n 2 hG dX3_addLines_89 rfl rfl ?_
    exact hE _ _ _ _ dX3_addLines_90 (k1 c24)
  · skip
    refine z_aload_n 0 hG dX3_addLines_27 rfl rfl ?_
    refine z_getR (t := 2) hG zcl3 (zlt hL (by decide)) (zl0 hL) 2 (by decide) rfl kw161 dX3_addLines_28 ?_
    refine z_getRN (t := 3) hG zcl2 (zlt hL (by decide)) (zl2 hL) 1 (by decide) rfl kw31 dX3_addLines_31 ?_
    refine z_iload 3 hG dX3_addLines_34 rfl ?_
    refine z_iald (v := I 3 line) hG (zlt hL (by decide)) (zl3 hL) (by decide) (by omega) rfl dX3_addLines_36 ?_
    refine z_istore (lv' := [(6, .int (zI (I 3 line))), (0, .ref (F.1 0)), (1, .long (zJ st)), (3, .long (zJ d)), (5, .int (zI line))]) hG dX3_addLines_37 (by decide) rfl ?_
    have q9 := hr 3 line
    refine z_lload_n 3 hG dX3_addLines_39 rfl rfl ?_
    refine z_iload 0 hG dX3_addLines_40 rfl ?_
    refine z_callS [.long (zJ d), .int (zI (I 3 line))] hG hR (c_X3_mixed hr (by omega)) hd_X3_mixed kw268 kw269 (by decide) (by decide) (by decide) (by decide) rfl rfl (Nat.le_of_ble_eq_true rfl) dX3_addLines_42 (fun r I' hp => ?_)
    rw [hp.1, hp.2]
    show zW G F 0 0 I [(6, .int (zI (I 3 line))), (0, .ref (F.1 0)), (1, .long (zJ st)), (3, .long (zJ d)), (5, .int (zI line))] [.long (zJ ((d * 31) + (I 3 line)))] 45
    refine z_lstore_n (lv' := [(3, .long (zJ ((d * 31) + (I 3 line)))), (6, .int (zI (I 3 line))), (0, .ref (F.1 0)), (1, .long (zJ st)), (5, .int (zI line))]) hG dX3_addLines_45 rfl (by decide) rfl ?_
    refine z_iconst 0 hG dX3_addLines_46 ?_
    refine z_istore (lv' := [(7, .int (zI 0)), (3, .long (zJ ((d * 31) + (I 3 line)))), (6, .int (zI (I 3 line))), (0, .ref (F.1 0)), (1, .long (zJ st)), (5, .int (zI line))]) hG dX3_addLines_47 (by decide) rfl ?_
    refine z_perm (lv' := [(0, .ref (F.1 0)), (1, .long (zJ st)), (3, .long (zJ ((d * 31) + (I 3 line)))), (5, .int (zI line)), (6, .int (zI (I 3 line))), (7, .int (zI 0))]) [3, 4, 1, 5, 2, 0] rfl ?_
    exact k2 c24

set_option maxRecDepth 100000 in
set_option maxHeartbeats 4000000 in
theorem s_X3_addLines_49 {G : zCx} {F : zFr} {I : zStore} {post : Option Value → zStore → Prop}{st d line size i : Int} (hG : zOK G "LineLearner" cX3_addLines 8) (hR : zRoom G rm_X3_addLines) (hE : zRetL G F cX3_addLines 0 0 post) (hL : zLay F) (hr : zRg I) (h1 : 0 ≤ line ∧ line < 12 ∧ size ≤ 30) (h2 : 0 ≤ i ∧ i ≤ size)
    (k1 : (size ≤ i) → zW G F 0 0 I [(0, .ref (F.1 0)), (1, .long (zJ st)), (3, .long (zJ d)), (5, .int (zI (line + 1)))] [] 15)
    (k2 : (i < size) → zW G F 0 0 I [(0, .ref (F.1 0)), (1, .long (zJ st)), (3, .long (zJ ((d * 31) + (I 5 ((line * 30) + i))))), (5, .int (zI line)), (6, .int (zI size)), (7, .int (zI (i + 1)))] [] 49) :
    zW G F 0 0 I [(0, .ref (F.1 0)), (1, .long (zJ st)), (3, .long (zJ d)), (5, .int (zI line)), (6, .int (zI size)), (7, .int (zI i))] [] 49 := by
  refine z_iload 5 hG dX3_addLines_49 rfl ?_
  refine z_iload 4 hG dX3_addLines_51 rfl ?_
  refine z_icmp_ge (tgt := 83) hG dX3_addLines_53 (by decide) (by omega) (by omega) (fun c53 => ?_) (fun c53 => ?_)
  · skip
    refine z_iinc (lv' := [(5, .int (zI (line + 1))), (0, .ref (F.1 0)), (1, .long (zJ st)), (3, .long (zJ d)), (6, .int (zI size)), (7, .int (zI i))]) 3 hG dX3_addLines_83 rfl (by decide) rfl ?_
    refine z_goto (tgt := 15) hG dX3_addLines_86 (by decide) ?_
    refine z_perm (lv' := [(0, .ref (F.1 0)), (1, .long (zJ st)), (3, .long (zJ d)), (5, .int (zI (line + 1)))]) [1, 2, 3, 0] rfl ?_
    exact k1 c53
  · skip
    refine z_lload_n 2 hG dX3_addLines_56 rfl rfl ?_
    refine z_aload_n 0 hG dX3_addLines_57 rfl rfl ?_
    refine z_getR (t := 2) hG zcl3 (zlt hL (by decide)) (zl0 hL) 2 (by decide) rfl kw161 dX3_addLines_58 ?_
    refine z_getRN (t := 5) hG zcl2 (zlt hL (by decide)) (zl2 hL) 3 (by decide) rfl kw36 dX3_addLines_61 ?_
    refine z_iload 3 hG dX3_addLines_64 rfl ?_
    refine z_callS [.int (zI line)] hG hR (c_X3_firstByteOf hr) hd_X3_firstByteOf kw276 kw277 (by decide) (by decide) (by decide) (by decide) rfl rfl (Nat.le_of_ble_eq_true rfl) dX3_addLines_66 (fun r I' hp => ?_)
    rw [hp.1, hp.2]
    show zW G F 0 0 I [(0, .ref (F.1 0)), (1, .long (zJ st)), (3, .long (zJ d)), (5, .int (zI line)), (6, .int (zI size)), (7, .int (zI i))] [.int (zI (line * 30)), .ref (F.1 5), .long (zJ d)] 69
    refine z_iload 5 hG dX3_addLines_69 rfl ?_
    refine z_iadd hG dX3_addLines_71 ?_
    have q9 := hr 5 ((line * 30) + i)
    refine z_bald (v := I 5 ((line * 30) + i)) hG (zlt hL (by decide)) (zl5 hL) (by decide) (by omega) rfl dX3_addLines_72 ?_
    refine z_callS [.long (zJ d), .int (zI (I 5 ((line * 30) + i)))] hG hR (c_X3_mixed hr (by omega)) hd_X3_mixed kw268 kw269 (by decide) (by decide) (by decide) (by decide) rfl rfl (Nat.le_of_ble_eq_true rfl) dX3_addLines_73 (fun r I' hp => ?_)
    rw [hp.1, hp.2]
    show zW G F 0 0 I [(0, .ref (F.1 0)), (1, .long (zJ st)), (3, .long (zJ d)), (5, .int (zI line)), (6, .int (zI size)), (7, .int (zI i))] [.long (zJ ((d * 31) + (I 5 ((line * 30) + i))))] 76
    refine z_lstore_n (lv' := [(3, .long (zJ ((d * 31) + (I 5 ((line * 30) + i))))), (0, .ref (F.1 0)), (1, .long (zJ st)), (5, .int (zI line)), (6, .int (zI size)), (7, .int (zI i))]) hG dX3_addLines_76 rfl (by decide) rfl ?_
    refine z_iinc (lv' := [(7, .int (zI (i + 1))), (3, .long (zJ ((d * 31) + (I 5 ((line * 30) + i))))), (0, .ref (F.1 0)), (1, .long (zJ st)), (5, .int (zI line)), (6, .int (zI size))]) 5 hG dX3_addLines_77 rfl (by decide) rfl ?_
    refine z_goto (tgt := 49) hG dX3_addLines_80 (by decide) ?_
    refine z_perm (lv' := [(0, .ref (F.1 0)), (1, .long (zJ st)), (3, .long (zJ ((d * 31) + (I 5 ((line * 30) + i))))), (5, .int (zI line)), (6, .int (zI size)), (7, .int (zI (i + 1)))]) [2, 3, 1, 4, 5, 0] rfl ?_
    exact k2 c53

abbrev rm_X3_addSlots : Room := { frames := 1, cells := 0, slots := 0, locals := 22 }
set_option maxRecDepth 100000 in
set_option maxHeartbeats 4000000 in
theorem s_X3_addSlots_0 {G : zCx} {F : zFr} {I : zStore} {post : Option Value → zStore → Prop}{st : Int} (hG : zOK G "LineLearner" cX3_addSlots 7) (hR : zRoom G rm_X3_addSlots) (hE : zRetL G F cX3_addSlots 0 0 post) (hL : zLay F) (hr : zRg I)
    (k1 : zW G F 0 0 I [(0, .ref (F.1 0)), (1, .long (zJ st)), (3, .long (zJ ((st * 31) + (I 15 0)))), (5, .int (zI 0))] [] 15) :
    zW G F 0 0 I [(0, .ref (F.1 0)), (1, .long (zJ st))] [] 0 := by
  have q9 := hr 15 0
  refine z_lload_n 1 hG dX3_addSlots_0 rfl rfl ?_
  refine z_aload_n 0 hG dX3_addSlots_1 rfl rfl ?_
  refine z_getR (t := 15) hG zcl3 (zlt hL (by decide)) (zl0 hL) 4 (by decide) rfl kw163 dX3_addSlots_2 ?_
  refine z_getIN (v := I 15 0) hG zcl1 (zlt hL (by decide)) (zl15 hL) 0 (by decide) rfl rfl rfl kw120 dX3_addSlots_5 ?_
  refine z_callS [.long (zJ st), .int (zI (I 15 0))] hG hR (c_X3_mixed hr (by omega)) hd_X3_mixed kw268 kw269 (by decide) (by decide) (by decide) (by decide) rfl rfl (Nat.le_of_ble_eq_true rfl) dX3_addSlots_8 (fun r I' hp => ?_)
  rw [hp.1, hp.2]
  show zW G F 0 0 I [(0, .ref (F.1 0)), (1, .long (zJ st))] [.long (zJ ((st * 31) + (I 15 0)))] 11
  refine z_lstore_n (lv' := [(3, .long (zJ ((st * 31) + (I 15 0)))), (0, .ref (F.1 0)), (1, .long (zJ st))]) hG dX3_addSlots_11 rfl (by decide) rfl ?_
  refine z_iconst 0 hG dX3_addSlots_12 ?_
  refine z_istore (lv' := [(5, .int (zI 0)), (3, .long (zJ ((st * 31) + (I 15 0)))), (0, .ref (F.1 0)), (1, .long (zJ st))]) hG dX3_addSlots_13 (by decide) rfl ?_
  refine z_perm (lv' := [(0, .ref (F.1 0)), (1, .long (zJ st)), (3, .long (zJ ((st * 31) + (I 15 0)))), (5, .int (zI 0))]) [2, 3, 1, 0] rfl ?_
  exact k1

set_option maxRecDepth 100000 in
set_option maxHeartbeats 4000000 in
theorem s_X3_addSlots_15 {G : zCx} {F : zFr} {I : zStore} {post : Option Value → zStore → Prop}{st d slot : Int} (hG : zOK G "LineLearner" cX3_addSlots 7) (hR : zRoom G rm_X3_addSlots) (hE : zRetL G F cX3_addSlots 0 0 post) (hL : zLay F) (hr : zRg I) (h1 : 0 ≤ slot ∧ slot ≤ 40 ∧ I 15 0 ≤ 40) (hz : ∀ _u : Unit, slot < I 15 0 → (0 ≤ I 16 slot ∧ I 16 slot < 40) ∧ (I 18 (I 16 slot) ≠ (-1) → 0 ≤ I 18 (I 16 slot) ∧ I 18 (I 16 slot) < 360))
    (k1 : ((I 15 0) ≤ slot) → post (some (.long (zJ d))) I)
    (k2 : (slot < (I 15 0)) → zW G F 0 0 I [(0, .ref (F.1 0)), (1, .long (zJ st)), (3, .long (zJ ((((((((((d * 31) + (I 17 (I 16 slot))) * 31) + (I 19 (I 16 slot))) * 31) + (I 20 (I 16 slot))) * 31) + (I 21 (I 16 slot))) * 31) + (if I 18 (I 16 slot) = (-1) then (-1) else I 8 (I 18 (I 16 slot)))))), (5, .int (zI (slot + 1)))] [] 15) :
    zW G F 0 0 I [(0, .ref (F.1 0)), (1, .long (zJ st)), (3, .long (zJ d)), (5, .int (zI slot))] [] 15 := by
  refine z_iload 3 hG dX3_addSlots_15 rfl ?_
  refine z_aload_n 0 hG dX3_addSlots_17 rfl rfl ?_
  refine z_getR (t := 15) hG zcl3 (zlt hL (by decide)) (zl0 hL) 4 (by decide) rfl kw163 dX3_addSlots_18 ?_
  refine z_getIN (v := I 15 0) hG zcl1 (zlt hL (by decide)) (zl15 hL) 0 (by decide) rfl rfl rfl kw120 dX3_addSlots_21 ?_
  refine z_icmp_ge (tgt := 116) hG dX3_addSlots_24 (by decide) (by omega) (hr _ _) (fun c24 => ?_) (fun c24 => ?_)
  · skip
    refine z_lload_n 2 hG dX3_addSlots_116 rfl rfl ?_
    exact hE _ _ _ _ dX3_addSlots_117 (k1 c24)
  · skip
    have q9 := hz () c24
    refine z_aload_n 0 hG dX3_addSlots_27 rfl rfl ?_
    refine z_getR (t := 15) hG zcl3 (zlt hL (by decide)) (zl0 hL) 4 (by decide) rfl kw163 dX3_addSlots_28 ?_
    refine z_getRN (t := 16) hG zcl1 (zlt hL (by decide)) (zl15 hL) 2 (by decide) rfl kw126 dX3_addSlots_31 ?_
    refine z_iload 3 hG dX3_addSlots_34 rfl ?_
    refine z_iald (v := I 16 slot) hG (zlt hL (by decide)) (zl16 hL) (by decide) (by omega) rfl dX3_addSlots_36 ?_
    have q7 := fun _ : Unit => q9.2
    have r1 := hr 17 (I 16 slot)
    have r2 := hr 19 (I 16 slot)
    have r3 := hr 20 (I 16 slot)
    have r4 := hr 21 (I 16 slot)
    have r5 := hr 8 (I 18 (I 16 slot))
    refine z_istore (lv' := [(6, .int (zI (I 16 slot))), (0, .ref (F.1 0)), (1, .long (zJ st)), (3, .long (zJ d)), (5, .int (zI slot))]) hG dX3_addSlots_37 (by decide) rfl ?_
    refine z_lload_n 3 hG dX3_addSlots_39 rfl rfl ?_
    refine z_aload_n 1 hG dX3_addSlots_40 rfl rfl ?_
    refine z_getR (t := 15) hG zcl3 (zlt hL (by decide)) (zl0 hL) 4 (by decide) rfl kw163 dX3_addSlots_41 ?_
    refine z_getRN (t := 17) hG zcl1 (zlt hL (by decide)) (zl15 hL) 3 (by decide) rfl kw129 dX3_addSlots_44 ?_
    refine z_iload 0 hG dX3_addSlots_47 rfl ?_
    refine z_iald (v := I 17 (I 16 slot)) hG (zlt hL (by decide)) (zl17 hL) (by decide) (by omega) rfl dX3_addSlots_49 ?_
    refine z_callS [.long (zJ d), .int (zI (I 17 (I 16 slot)))] hG hR (c_X3_mixed hr (by omega)) hd_X3_mixed kw268 kw269 (by decide) (by decide) (by decide) (by decide) rfl rfl (Nat.le_of_ble_eq_true rfl) dX3_addSlots_50 (fun r I' hp => ?_)
    rw [hp.1, hp.2]
    show zW G F 0 0 I [(6, .int (zI (I 16 slot))), (0, .ref (F.1 0)), (1, .long (zJ st)), (3, .long (zJ d)), (5, .int (zI slot))] [.long (zJ ((d * 31) + (I 17 (I 16 slot))))] 53
    refine z_lstore_n (lv' := [(3, .long (zJ ((d * 31) + (I 17 (I 16 slot))))), (6, .int (zI (I 16 slot))), (0, .ref (F.1 0)), (1, .long (zJ st)), (5, .int (zI slot))]) hG dX3_addSlots_53 rfl (by decide) rfl ?_
    refine z_lload_n 0 hG dX3_addSlots_54 rfl rfl ?_
    refine z_aload_n 2 hG dX3_addSlots_55 rfl rfl ?_
    refine z_getR (t := 15) hG zcl3 (zlt hL (by decide)) (zl0 hL) 4 (by decide) rfl kw163 dX3_addSlots_56 ?_
    refine z_getRN (t := 19) hG zcl1 (zlt hL (by decide)) (zl15 hL) 5 (by decide) rfl kw135 dX3_addSlots_59 ?_
    refine z_iload 1 hG dX3_addSlots_62 rfl ?_
    refine z_iald (v := I 19 (I 16 slot)) hG (zlt hL (by decide)) (zl19 hL) (by decide) (by omega) rfl dX3_addSlots_64 ?_
    refine z_callS [.long (zJ ((d * 31) + (I 17 (I 16 slot)))), .int (zI (I 19 (I 16 slot)))] hG hR (c_X3_mixed hr (by omega)) hd_X3_mixed kw268 kw269 (by decide) (by decide) (by decide) (by decide) rfl rfl (Nat.le_of_ble_eq_true rfl) dX3_addSlots_65 (fun r I' hp => ?_)
    rw [hp.1, hp.2]
    show zW G F 0 0 I [(3, .long (zJ ((d * 31) + (I 17 (I 16 slot))))), (6, .int (zI (I 16 slot))), (0, .ref (F.1 0)), (1, .long (zJ st)), (5, .int (zI slot))] [.long (zJ ((((d * 31) + (I 17 (I 16 slot))) * 31) + (I 19 (I 16 slot))))] 68
    refine z_lstore_n (lv' := [(3, .long (zJ ((((d * 31) + (I 17 (I 16 slot))) * 31) + (I 19 (I 16 slot))))), (6, .int (zI (I 16 slot))), (0, .ref (F.1 0)), (1, .long (zJ st)), (5, .int (zI slot))]) hG dX3_addSlots_68 rfl (by decide) rfl ?_
    refine z_lload_n 0 hG dX3_addSlots_69 rfl rfl ?_
    refine z_aload_n 2 hG dX3_addSlots_70 rfl rfl ?_
    refine z_getR (t := 15) hG zcl3 (zlt hL (by decide)) (zl0 hL) 4 (by decide) rfl kw163 dX3_addSlots_71 ?_
    refine z_getRN (t := 20) hG zcl1 (zlt hL (by decide)) (zl15 hL) 6 (by decide) rfl kw138 dX3_addSlots_74 ?_
    refine z_iload 1 hG dX3_addSlots_77 rfl ?_
    refine z_iald (v := I 20 (I 16 slot)) hG (zlt hL (by decide)) (zl20 hL) (by decide) (by omega) rfl dX3_addSlots_79 ?_
    refine z_callS [.long (zJ ((((d * 31) + (I 17 (I 16 slot))) * 31) + (I 19 (I 16 slot)))), .int (zI (I 20 (I 16 slot)))] hG hR (c_X3_mixed hr (by omega)) hd_X3_mixed kw268 kw269 (by decide) (by decide) (by decide) (by decide) rfl rfl (Nat.le_of_ble_eq_true rfl) dX3_addSlots_80 (fun r I' hp => ?_)
    rw [hp.1, hp.2]
    show zW G F 0 0 I [(3, .long (zJ ((((d * 31) + (I 17 (I 16 slot))) * 31) + (I 19 (I 16 slot))))), (6, .int (zI (I 16 slot))), (0, .ref (F.1 0)), (1, .long (zJ st)), (5, .int (zI slot))] [.long (zJ ((((((d * 31) + (I 17 (I 16 slot))) * 31) + (I 19 (I 16 slot))) * 31) + (I 20 (I 16 slot))))] 83
    refine z_lstore_n (lv' := [(3, .long (zJ ((((((d * 31) + (I 17 (I 16 slot))) * 31) + (I 19 (I 16 slot))) * 31) + (I 20 (I 16 slot))))), (6, .int (zI (I 16 slot))), (0, .ref (F.1 0)), (1, .long (zJ st)), (5, .int (zI slot))]) hG dX3_addSlots_83 rfl (by decide) rfl ?_
    refine z_lload_n 0 hG dX3_addSlots_84 rfl rfl ?_
    refine z_aload_n 2 hG dX3_addSlots_85 rfl rfl ?_
    refine z_getR (t := 15) hG zcl3 (zlt hL (by decide)) (zl0 hL) 4 (by decide) rfl kw163 dX3_addSlots_86 ?_
    refine z_getRN (t := 21) hG zcl1 (zlt hL (by decide)) (zl15 hL) 7 (by decide) rfl kw140 dX3_addSlots_89 ?_
    refine z_iload 1 hG dX3_addSlots_92 rfl ?_
    refine z_iald (v := I 21 (I 16 slot)) hG (zlt hL (by decide)) (zl21 hL) (by decide) (by omega) rfl dX3_addSlots_94 ?_
    refine z_callS [.long (zJ ((((((d * 31) + (I 17 (I 16 slot))) * 31) + (I 19 (I 16 slot))) * 31) + (I 20 (I 16 slot)))), .int (zI (I 21 (I 16 slot)))] hG hR (c_X3_mixed hr (by omega)) hd_X3_mixed kw268 kw269 (by decide) (by decide) (by decide) (by decide) rfl rfl (Nat.le_of_ble_eq_true rfl) dX3_addSlots_95 (fun r I' hp => ?_)
    rw [hp.1, hp.2]
    show zW G F 0 0 I [(3, .long (zJ ((((((d * 31) + (I 17 (I 16 slot))) * 31) + (I 19 (I 16 slot))) * 31) + (I 20 (I 16 slot))))), (6, .int (zI (I 16 slot))), (0, .ref (F.1 0)), (1, .long (zJ st)), (5, .int (zI slot))] [.long (zJ ((((((((d * 31) + (I 17 (I 16 slot))) * 31) + (I 19 (I 16 slot))) * 31) + (I 20 (I 16 slot))) * 31) + (I 21 (I 16 slot))))] 98
    refine z_lstore_n (lv' := [(3, .long (zJ ((((((((d * 31) + (I 17 (I 16 slot))) * 31) + (I 19 (I 16 slot))) * 31) + (I 20 (I 16 slot))) * 31) + (I 21 (I 16 slot))))), (6, .int (zI (I 16 slot))), (0, .ref (F.1 0)), (1, .long (zJ st)), (5, .int (zI slot))]) hG dX3_addSlots_98 rfl (by decide) rfl ?_
    refine z_lload_n 0 hG dX3_addSlots_99 rfl rfl ?_
    refine z_aload_n 2 hG dX3_addSlots_100 rfl rfl ?_
    refine z_iload 1 hG dX3_addSlots_101 rfl ?_
    refine z_callV [.int (zI (I 16 slot))] hG hR (c_X3_textSize hL hr (by omega) q7) hd_X3_textSize kw243 kw245 kp3 rfl (zlt hL (by decide)) (zl0 hL) (by decide) (by decide) (by decide) (by decide) rfl rfl (Nat.le_of_ble_eq_true rfl) dX3_addSlots_103 (fun r I' hp => ?_)
    rw [hp.1, hp.2]
    show zW G F 0 0 I [(3, .long (zJ ((((((((d * 31) + (I 17 (I 16 slot))) * 31) + (I 19 (I 16 slot))) * 31) + (I 20 (I 16 slot))) * 31) + (I 21 (I 16 slot))))), (6, .int (zI (I 16 slot))), (0, .ref (F.1 0)), (1, .long (zJ st)), (5, .int (zI slot))] [.int (zI (if I 18 (I 16 slot) = (-1) then (-1) else I 8 (I 18 (I 16 slot)))), .long (zJ ((((((((d * 31) + (I 17 (I 16 slot))) * 31) + (I 19 (I 16 slot))) * 31) + (I 20 (I 16 slot))) * 31) + (I 21 (I 16 slot))))] 106
    have r6 : -2147483648 ≤ (if I 18 (I 16 slot) = (-1) then (-1) else I 8 (I 18 (I 16 slot))) ∧ (if I 18 (I 16 slot) = (-1) then (-1) else I 8 (I 18 (I 16 slot))) < 2147483648 := by split <;> omega
    refine z_callS [.long (zJ ((((((((d * 31) + (I 17 (I 16 slot))) * 31) + (I 19 (I 16 slot))) * 31) + (I 20 (I 16 slot))) * 31) + (I 21 (I 16 slot)))), .int (zI (if I 18 (I 16 slot) = (-1) then (-1) else I 8 (I 18 (I 16 slot))))] hG hR (c_X3_mixed hr (by omega)) hd_X3_mixed kw268 kw269 (by decide) (by decide) (by decide) (by decide) rfl rfl (Nat.le_of_ble_eq_true rfl) dX3_addSlots_106 (fun r I' hp => ?_)
    rw [hp.1, hp.2]
    show zW G F 0 0 I [(3, .long (zJ ((((((((d * 31) + (I 17 (I 16 slot))) * 31) + (I 19 (I 16 slot))) * 31) + (I 20 (I 16 slot))) * 31) + (I 21 (I 16 slot))))), (6, .int (zI (I 16 slot))), (0, .ref (F.1 0)), (1, .long (zJ st)), (5, .int (zI slot))] [.long (zJ ((((((((((d * 31) + (I 17 (I 16 slot))) * 31) + (I 19 (I 16 slot))) * 31) + (I 20 (I 16 slot))) * 31) + (I 21 (I 16 slot))) * 31) + (if I 18 (I 16 slot) = (-1) then (-1) else I 8 (I 18 (I 16 slot)))))] 109
    refine z_lstore_n (lv' := [(3, .long (zJ ((((((((((d * 31) + (I 17 (I 16 slot))) * 31) + (I 19 (I 16 slot))) * 31) + (I 20 (I 16 slot))) * 31) + (I 21 (I 16 slot))) * 31) + (if I 18 (I 16 slot) = (-1) then (-1) else I 8 (I 18 (I 16 slot)))))), (6, .int (zI (I 16 slot))), (0, .ref (F.1 0)), (1, .long (zJ st)), (5, .int (zI slot))]) hG dX3_addSlots_109 rfl (by decide) rfl ?_
    refine z_iinc (lv' := [(5, .int (zI (slot + 1))), (3, .long (zJ ((((((((((d * 31) + (I 17 (I 16 slot))) * 31) + (I 19 (I 16 slot))) * 31) + (I 20 (I 16 slot))) * 31) + (I 21 (I 16 slot))) * 31) + (if I 18 (I 16 slot) = (-1) then (-1) else I 8 (I 18 (I 16 slot)))))), (6, .int (zI (I 16 slot))), (0, .ref (F.1 0)), (1, .long (zJ st))]) 4 hG dX3_addSlots_110 rfl (by decide) rfl ?_
    refine z_goto (tgt := 15) hG dX3_addSlots_113 (by decide) ?_
    refine z_perm (lv' := [(0, .ref (F.1 0)), (1, .long (zJ st)), (3, .long (zJ ((((((((((d * 31) + (I 17 (I 16 slot))) * 31) + (I 19 (I 16 slot))) * 31) + (I 20 (I 16 slot))) * 31) + (I 21 (I 16 slot))) * 31) + (if I 18 (I 16 slot) = (-1) then (-1) else I 8 (I 18 (I 16 slot)))))), (5, .int (zI (slot + 1)))]) [3, 4, 1, 0] rfl ?_
    exact k2 c24

/-- the digest of a line's bytes -/
def zdl (I : zStore) (line d : Int) : Nat → Int
  | 0 => d
  | i + 1 => zdl I line d i * 31 + I 5 (line * 30 + i)
/-- the digest of the lines -/
def zdL (I : zStore) (st : Int) : Nat → Int
  | 0 => st * 31 + I 2 0
  | l + 1 => zdl I l (zdL I st l * 31 + I 3 l) (I 3 l).toNat
/-- the digest of the slots -/
def zdS (I : zStore) (st : Int) : Nat → Int
  | 0 => st * 31 + I 15 0
  | s + 1 => (((((((((zdS I st s * 31) + (I 17 (I 16 s))) * 31) + (I 19 (I 16 s))) * 31) + (I 20 (I 16 s))) * 31) + (I 21 (I 16 s))) * 31) + (if I 18 (I 16 s) = (-1) then (-1) else I 8 (I 18 (I 16 s)))
/-- the digest of the groups -/
def zdG (I : zStore) (d : Int) : Nat → Int
  | 0 => d
  | l + 1 => zdG I d l * 31 + I 24 l
/-- the sizes of the lines -/
def zSz (I : zStore) (N : Int) : Prop := ∀ l : Int, 0 ≤ l → l < N → 0 ≤ I 3 l ∧ I 3 l ≤ 30
set_option maxHeartbeats 4000000 in
theorem c_X3_addLines {F : zFr} {I : zStore} {st : Int} {N : Nat} (hL : zLay F) (hr : zRg I) (hN : I 2 0 = N) (hN2 : N ≤ 12) (hsz : zSz I N) : ∀ (l : Launch) (D : va_G) (cs : Nat → ClassId), l.stackTraces = false → zMt l yX3_addLines cX3_addLines 8 (some .long) rm_X3_addLines D cs F I [.ref (F.1 0), .long (zJ st)] (fun r I' => r = some (.long (zJ (zdL I st N))) ∧ I' = I) := by
  intro l D cs hst
  refine zMt.ofL hst (by decide +kernel) (Nat.le_of_ble_eq_true rfl) fun G hG hR hE => ?_
  refine s_X3_addLines_0 hG hR hE hL hr ?_
  have key2 : ∀ (line m : Nat) (d0 : Int), line < 12 → m ≤ 30 → (zW G F 0 0 I [(0, .ref (F.1 0)), (1, .long (zJ st)), (3, .long (zJ (zdl I line d0 m))), (5, .int (zI ((line : Int) + 1)))] [] 15) → ∀ (d i : Nat), i + d = m → zW G F 0 0 I [(0, .ref (F.1 0)), (1, .long (zJ st)), (3, .long (zJ (zdl I line d0 i))), (5, .int (zI line)), (6, .int (zI m)), (7, .int (zI i))] [] 49 := by
    intro line m d0 hl hm k d
    induction d with
    | zero =>
      intro i hi
      have e : i = m := by omega
      subst e
      exact s_X3_addLines_49 hG hR hE hL hr (by omega) (by omega) (fun _ => k) (fun h => absurd h (by omega))
    | succ d ih =>
      intro i hi
      exact s_X3_addLines_49 hG hR hE hL hr (by omega) (by omega) (fun h => absurd h (by omega)) (fun _ => ih (i + 1) (by omega))
  have key : ∀ (d i : Nat), i + d = N → zW G F 0 0 I [(0, .ref (F.1 0)), (1, .long (zJ st)), (3, .long (zJ (zdL I st i))), (5, .int (zI i))] [] 15 := by
    intro d
    induction d with
    | zero =>
      intro i hi
      have e : i = N := by omega
      subst e
      exact s_X3_addLines_15 hG hR hE hL hr (by omega) (fun _ => ⟨rfl, rfl⟩) (fun h => absurd h (by omega))
    | succ d ih =>
      intro i hi
      have hs := hsz i (by omega) (by omega)
      have h := key2 i (I 3 i).toNat (zdL I st i * 31 + I 3 i) (by omega) (by omega) (ih (i + 1) (by omega)) (I 3 i).toNat 0 (by omega)
      rw [show (((I 3 i).toNat : Nat) : Int) = I 3 i by omega] at h
      exact s_X3_addLines_15 hG hR hE hL hr (by omega) (fun h => absurd h (by omega)) (fun _ => h)
  exact key N 0 (by omega)
set_option maxHeartbeats 4000000 in
theorem c_X3_addSlots {F : zFr} {I : zStore} {st : Int} {n : Nat} (hL : zLay F) (hr : zRg I) (hn : I 15 0 = n) (hn2 : n ≤ 40) (hz : zSl I n) : ∀ (l : Launch) (D : va_G) (cs : Nat → ClassId), l.stackTraces = false → zMt l yX3_addSlots cX3_addSlots 7 (some .long) rm_X3_addSlots D cs F I [.ref (F.1 0), .long (zJ st)] (fun r I' => r = some (.long (zJ (zdS I st n))) ∧ I' = I) := by
  intro l D cs hst
  refine zMt.ofL hst (by decide +kernel) (Nat.le_of_ble_eq_true rfl) fun G hG hR hE => ?_
  refine s_X3_addSlots_0 hG hR hE hL hr ?_
  have key : ∀ (d i : Nat), i + d = n → zW G F 0 0 I [(0, .ref (F.1 0)), (1, .long (zJ st)), (3, .long (zJ (zdS I st i))), (5, .int (zI i))] [] 15 := by
    intro d
    induction d with
    | zero =>
      intro i hi
      have e : i = n := by omega
      subst e
      exact s_X3_addSlots_15 hG hR hE hL hr (by omega) (fun _ h => absurd h (by omega)) (fun _ => ⟨rfl, rfl⟩) (fun h => absurd h (by omega))
    | succ d ih =>
      intro i hi
      have hs := hz i (by omega) (by omega)
      exact s_X3_addSlots_15 hG hR hE hL hr (by omega) (fun _ _ => ⟨hs.1, hs.2.1⟩) (fun h => absurd h (by omega)) (fun _ => ih (i + 1) (by omega))
  exact key n 0 (by omega)
abbrev rm_X3_digest : Room := { frames := 2, cells := 0, slots := 0, locals := 49 }
set_option maxRecDepth 100000 in
set_option maxHeartbeats 4000000 in
theorem s_X3_digest_0 {G : zCx} {F : zFr} {I : zStore} {post : Option Value → zStore → Prop}{N n : Nat} (hG : zOK G "LineLearner" cX3_digest 4) (hR : zRoom G rm_X3_digest) (hE : zRetL G F cX3_digest 0 0 post) (hL : zLay F) (hr : zRg I) (hN : I 2 0 = N) (hN2 : N ≤ 12) (hsz : zSz I N) (hn : I 15 0 = n) (hn2 : n ≤ 40) (hz : zSl I n)
    (k1 : ((I 0 7) = 0) → post (some (.long (zJ (((zdS I (((((((zdL I ((149 * 31) + (I 0 1)) N) * 31) + (I 10 1)) * 31) + (I 10 2)) * 31) + (I 10 3)) n) * 31) + (I 15 1))))) I)
    (k2 : ((I 0 7) ≠ 0) → zW G F 0 0 I [(0, .ref (F.1 0)), (1, .long (zJ (((zdS I (((((((zdL I ((149 * 31) + (I 0 1)) N) * 31) + (I 10 1)) * 31) + (I 10 2)) * 31) + (I 10 3)) n) * 31) + (I 15 1)))), (3, .int (zI 0))] [] 76) :
    zW G F 0 0 I [(0, .ref (F.1 0))] [] 0 := by
  have q1 := hr 0 1
  have q2 := hr 10 1
  have q3 := hr 10 2
  have q4 := hr 10 3
  have q5 := hr 15 1
  have q6 := hr 0 7
  refine z_ldc2 149 hG kw267 (by decide) dX3_digest_0 ?_
  refine z_aload_n 0 hG dX3_digest_3 rfl rfl ?_
  refine z_getI (v := I 0 1) hG zcl3 (zlt hL (by decide)) (zl0 hL) 1 (by decide) rfl rfl rfl kw160 dX3_digest_4 ?_
  refine z_callS [.long (zJ 149), .int (zI (I 0 1))] hG hR (c_X3_mixed hr (by omega)) hd_X3_mixed kw268 kw269 (by decide) (by decide) (by decide) (by decide) rfl rfl (Nat.le_of_ble_eq_true rfl) dX3_digest_7 (fun r I' hp => ?_)
  rw [hp.1, hp.2]
  show zW G F 0 0 I [(0, .ref (F.1 0))] [.long (zJ ((149 * 31) + (I 0 1)))] 10
  refine z_lstore_n (lv' := [(1, .long (zJ ((149 * 31) + (I 0 1)))), (0, .ref (F.1 0))]) hG dX3_digest_10 rfl (by decide) rfl ?_
  refine z_aload_n 1 hG dX3_digest_11 rfl rfl ?_
  refine z_lload_n 0 hG dX3_digest_12 rfl rfl ?_
  refine z_callV [.long (zJ ((149 * 31) + (I 0 1)))] hG hR (c_X3_addLines hL hr hN hN2 hsz) hd_X3_addLines kw272 kw274 kp5 rfl (zlt hL (by decide)) (zl0 hL) (by decide) (by decide) (by decide) (by decide) rfl rfl (Nat.le_of_ble_eq_true rfl) dX3_digest_13 (fun r I' hp => ?_)
  rw [hp.1, hp.2]
  show zW G F 0 0 I [(1, .long (zJ ((149 * 31) + (I 0 1)))), (0, .ref (F.1 0))] [.long (zJ (zdL I ((149 * 31) + (I 0 1)) N))] 16
  refine z_lstore_n (lv' := [(1, .long (zJ (zdL I ((149 * 31) + (I 0 1)) N))), (0, .ref (F.1 0))]) hG dX3_digest_16 rfl (by decide) rfl ?_
  refine z_lload_n 0 hG dX3_digest_17 rfl rfl ?_
  refine z_aload_n 1 hG dX3_digest_18 rfl rfl ?_
  refine z_getR (t := 10) hG zcl3 (zlt hL (by decide)) (zl0 hL) 3 (by decide) rfl kw162 dX3_digest_19 ?_
  refine z_getIN (v := I 10 1) hG zcl0 (zlt hL (by decide)) (zl10 hL) 1 (by decide) rfl rfl rfl kw78 dX3_digest_22 ?_
  refine z_callS [.long (zJ (zdL I ((149 * 31) + (I 0 1)) N)), .int (zI (I 10 1))] hG hR (c_X3_mixed hr (by omega)) hd_X3_mixed kw268 kw269 (by decide) (by decide) (by decide) (by decide) rfl rfl (Nat.le_of_ble_eq_true rfl) dX3_digest_25 (fun r I' hp => ?_)
  rw [hp.1, hp.2]
  show zW G F 0 0 I [(1, .long (zJ (zdL I ((149 * 31) + (I 0 1)) N))), (0, .ref (F.1 0))] [.long (zJ (((zdL I ((149 * 31) + (I 0 1)) N) * 31) + (I 10 1)))] 28
  refine z_aload_n 1 hG dX3_digest_28 rfl rfl ?_
  refine z_getR (t := 10) hG zcl3 (zlt hL (by decide)) (zl0 hL) 3 (by decide) rfl kw162 dX3_digest_29 ?_
  refine z_getIN (v := I 10 2) hG zcl0 (zlt hL (by decide)) (zl10 hL) 2 (by decide) rfl rfl rfl kw80 dX3_digest_32 ?_
  refine z_callS [.long (zJ (((zdL I ((149 * 31) + (I 0 1)) N) * 31) + (I 10 1))), .int (zI (I 10 2))] hG hR (c_X3_mixed hr (by omega)) hd_X3_mixed kw268 kw269 (by decide) (by decide) (by decide) (by decide) rfl rfl (Nat.le_of_ble_eq_true rfl) dX3_digest_35 (fun r I' hp => ?_)
  rw [hp.1, hp.2]
  show zW G F 0 0 I [(1, .long (zJ (zdL I ((149 * 31) + (I 0 1)) N))), (0, .ref (F.1 0))] [.long (zJ (((((zdL I ((149 * 31) + (I 0 1)) N) * 31) + (I 10 1)) * 31) + (I 10 2)))] 38
  refine z_aload_n 1 hG dX3_digest_38 rfl rfl ?_
  refine z_getR (t := 10) hG zcl3 (zlt hL (by decide)) (zl0 hL) 3 (by decide) rfl kw162 dX3_digest_39 ?_
  refine z_getIN (v := I 10 3) hG zcl0 (zlt hL (by decide)) (zl10 hL) 3 (by decide) rfl rfl rfl kw82 dX3_digest_42 ?_
  refine z_callS [.long (zJ (((((zdL I ((149 * 31) + (I 0 1)) N) * 31) + (I 10 1)) * 31) + (I 10 2))), .int (zI (I 10 3))] hG hR (c_X3_mixed hr (by omega)) hd_X3_mixed kw268 kw269 (by decide) (by decide) (by decide) (by decide) rfl rfl (Nat.le_of_ble_eq_true rfl) dX3_digest_45 (fun r I' hp => ?_)
  rw [hp.1, hp.2]
  show zW G F 0 0 I [(1, .long (zJ (zdL I ((149 * 31) + (I 0 1)) N))), (0, .ref (F.1 0))] [.long (zJ (((((((zdL I ((149 * 31) + (I 0 1)) N) * 31) + (I 10 1)) * 31) + (I 10 2)) * 31) + (I 10 3)))] 48
  refine z_lstore_n (lv' := [(1, .long (zJ (((((((zdL I ((149 * 31) + (I 0 1)) N) * 31) + (I 10 1)) * 31) + (I 10 2)) * 31) + (I 10 3)))), (0, .ref (F.1 0))]) hG dX3_digest_48 rfl (by decide) rfl ?_
  refine z_aload_n 1 hG dX3_digest_49 rfl rfl ?_
  refine z_lload_n 0 hG dX3_digest_50 rfl rfl ?_
  refine z_callV [.long (zJ (((((((zdL I ((149 * 31) + (I 0 1)) N) * 31) + (I 10 1)) * 31) + (I 10 2)) * 31) + (I 10 3)))] hG hR (c_X3_addSlots hL hr hn hn2 hz) hd_X3_addSlots kw279 kw281 kp6 rfl (zlt hL (by decide)) (zl0 hL) (by decide) (by decide) (by decide) (by decide) rfl rfl (Nat.le_of_ble_eq_true rfl) dX3_digest_51 (fun r I' hp => ?_)
  rw [hp.1, hp.2]
  show zW G F 0 0 I [(1, .long (zJ (((((((zdL I ((149 * 31) + (I 0 1)) N) * 31) + (I 10 1)) * 31) + (I 10 2)) * 31) + (I 10 3)))), (0, .ref (F.1 0))] [.long (zJ (zdS I (((((((zdL I ((149 * 31) + (I 0 1)) N) * 31) + (I 10 1)) * 31) + (I 10 2)) * 31) + (I 10 3)) n))] 54
  refine z_lstore_n (lv' := [(1, .long (zJ (zdS I (((((((zdL I ((149 * 31) + (I 0 1)) N) * 31) + (I 10 1)) * 31) + (I 10 2)) * 31) + (I 10 3)) n))), (0, .ref (F.1 0))]) hG dX3_digest_54 rfl (by decide) rfl ?_
  refine z_lload_n 0 hG dX3_digest_55 rfl rfl ?_
  refine z_aload_n 1 hG dX3_digest_56 rfl rfl ?_
  refine z_getR (t := 15) hG zcl3 (zlt hL (by decide)) (zl0 hL) 4 (by decide) rfl kw163 dX3_digest_57 ?_
  refine z_getIN (v := I 15 1) hG zcl1 (zlt hL (by decide)) (zl15 hL) 1 (by decide) rfl rfl rfl kw123 dX3_digest_60 ?_
  refine z_callS [.long (zJ (zdS I (((((((zdL I ((149 * 31) + (I 0 1)) N) * 31) + (I 10 1)) * 31) + (I 10 2)) * 31) + (I 10 3)) n)), .int (zI (I 15 1))] hG hR (c_X3_mixed hr (by omega)) hd_X3_mixed kw268 kw269 (by decide) (by decide) (by decide) (by decide) rfl rfl (Nat.le_of_ble_eq_true rfl) dX3_digest_63 (fun r I' hp => ?_)
  rw [hp.1, hp.2]
  show zW G F 0 0 I [(1, .long (zJ (zdS I (((((((zdL I ((149 * 31) + (I 0 1)) N) * 31) + (I 10 1)) * 31) + (I 10 2)) * 31) + (I 10 3)) n))), (0, .ref (F.1 0))] [.long (zJ (((zdS I (((((((zdL I ((149 * 31) + (I 0 1)) N) * 31) + (I 10 1)) * 31) + (I 10 2)) * 31) + (I 10 3)) n) * 31) + (I 15 1)))] 66
  refine z_lstore_n (lv' := [(1, .long (zJ (((zdS I (((((((zdL I ((149 * 31) + (I 0 1)) N) * 31) + (I 10 1)) * 31) + (I 10 2)) * 31) + (I 10 3)) n) * 31) + (I 15 1)))), (0, .ref (F.1 0))]) hG dX3_digest_66 rfl (by decide) rfl ?_
  refine z_aload_n 1 hG dX3_digest_67 rfl rfl ?_
  refine z_getI (v := I 0 7) hG zcl3 (zlt hL (by decide)) (zl0 hL) 7 (by decide) rfl rfl rfl kw166 dX3_digest_68 ?_
  refine z_if_eq (tgt := 104) hG dX3_digest_71 (by decide) (hr _ _) (fun c71 => ?_) (fun c71 => ?_)
  · skip
    refine z_lload_n 0 hG dX3_digest_104 rfl rfl ?_
    exact hE _ _ _ _ dX3_digest_105 (k1 c71)
  · skip
    refine z_iconst 0 hG dX3_digest_74 ?_
    refine z_istore_n (lv' := [(3, .int (zI 0)), (1, .long (zJ (((zdS I (((((((zdL I ((149 * 31) + (I 0 1)) N) * 31) + (I 10 1)) * 31) + (I 10 2)) * 31) + (I 10 3)) n) * 31) + (I 15 1)))), (0, .ref (F.1 0))]) hG dX3_digest_75 rfl (by decide) rfl ?_
    refine z_perm (lv' := [(0, .ref (F.1 0)), (1, .long (zJ (((zdS I (((((((zdL I ((149 * 31) + (I 0 1)) N) * 31) + (I 10 1)) * 31) + (I 10 2)) * 31) + (I 10 3)) n) * 31) + (I 15 1)))), (3, .int (zI 0))]) [2, 1, 0] rfl ?_
    exact k2 c71

set_option maxRecDepth 100000 in
set_option maxHeartbeats 4000000 in
theorem s_X3_digest_76 {G : zCx} {F : zFr} {I : zStore} {post : Option Value → zStore → Prop}{d line : Int} {N n : Nat} (hG : zOK G "LineLearner" cX3_digest 4) (hR : zRoom G rm_X3_digest) (hE : zRetL G F cX3_digest 0 0 post) (hL : zLay F) (hr : zRg I) (h1 : 0 ≤ line ∧ line ≤ 12 ∧ I 2 0 ≤ 12)
    (k1 : ((I 2 0) ≤ line) → post (some (.long (zJ d))) I)
    (k2 : (line < (I 2 0)) → zW G F 0 0 I [(0, .ref (F.1 0)), (1, .long (zJ ((d * 31) + (I 24 line)))), (3, .int (zI (line + 1)))] [] 76) :
    zW G F 0 0 I [(0, .ref (F.1 0)), (1, .long (zJ d)), (3, .int (zI line))] [] 76 := by
  have q7 := hr 24 line
  refine z_iload_n 2 hG dX3_digest_76 rfl rfl ?_
  refine z_aload_n 0 hG dX3_digest_77 rfl rfl ?_
  refine z_getR (t := 2) hG zcl3 (zlt hL (by decide)) (zl0 hL) 2 (by decide) rfl kw161 dX3_digest_78 ?_
  refine z_getIN (v := I 2 0) hG zcl2 (zlt hL (by decide)) (zl2 hL) 0 (by decide) rfl rfl rfl kw29 dX3_digest_81 ?_
  refine z_icmp_ge (tgt := 104) hG dX3_digest_84 (by decide) (by omega) (hr _ _) (fun c84 => ?_) (fun c84 => ?_)
  · skip
    refine z_lload_n 1 hG dX3_digest_104 rfl rfl ?_
    exact hE _ _ _ _ dX3_digest_105 (k1 c84)
  · skip
    refine z_lload_n 1 hG dX3_digest_87 rfl rfl ?_
    refine z_aload_n 0 hG dX3_digest_88 rfl rfl ?_
    refine z_getR (t := 24) hG zcl3 (zlt hL (by decide)) (zl0 hL) 9 (by decide) rfl kw168 dX3_digest_89 ?_
    refine z_iload_n 2 hG dX3_digest_92 rfl rfl ?_
    refine z_iald (v := I 24 line) hG (zlt hL (by decide)) (zl24 hL) (by decide) (by omega) rfl dX3_digest_93 ?_
    refine z_callS [.long (zJ d), .int (zI (I 24 line))] hG hR (c_X3_mixed hr (by omega)) hd_X3_mixed kw268 kw269 (by decide) (by decide) (by decide) (by decide) rfl rfl (Nat.le_of_ble_eq_true rfl) dX3_digest_94 (fun r I' hp => ?_)
    rw [hp.1, hp.2]
    show zW G F 0 0 I [(0, .ref (F.1 0)), (1, .long (zJ d)), (3, .int (zI line))] [.long (zJ ((d * 31) + (I 24 line)))] 97
    refine z_lstore_n (lv' := [(1, .long (zJ ((d * 31) + (I 24 line)))), (0, .ref (F.1 0)), (3, .int (zI line))]) hG dX3_digest_97 rfl (by decide) rfl ?_
    refine z_iinc (lv' := [(3, .int (zI (line + 1))), (1, .long (zJ ((d * 31) + (I 24 line)))), (0, .ref (F.1 0))]) 2 hG dX3_digest_98 rfl (by decide) rfl ?_
    refine z_goto (tgt := 76) hG dX3_digest_101 (by decide) ?_
    refine z_perm (lv' := [(0, .ref (F.1 0)), (1, .long (zJ ((d * 31) + (I 24 line)))), (3, .int (zI (line + 1)))]) [2, 1, 0] rfl ?_
    exact k2 c84

/-- the digest of it all -/
def zdig (I : zStore) (N n : Nat) : Int := if I 0 7 = 0 then zdS I ((((((zdL I (149 * 31 + I 0 1) N) * 31 + I 10 1) * 31) + I 10 2) * 31) + I 10 3) n * 31 + I 15 1 else zdG I (zdS I ((((((zdL I (149 * 31 + I 0 1) N) * 31 + I 10 1) * 31) + I 10 2) * 31) + I 10 3) n * 31 + I 15 1) N
set_option maxHeartbeats 4000000 in
theorem c_X3_digest {F : zFr} {I : zStore} {N n : Nat} (hL : zLay F) (hr : zRg I) (hN : I 2 0 = N) (hN2 : N ≤ 12) (hsz : zSz I N) (hn : I 15 0 = n) (hn2 : n ≤ 40) (hz : zSl I n) : ∀ (l : Launch) (D : va_G) (cs : Nat → ClassId), l.stackTraces = false → zMt l yX3_digest cX3_digest 4 (some .long) rm_X3_digest D cs F I [.ref (F.1 0)] (fun r I' => r = some (.long (zJ (zdig I N n))) ∧ I' = I) := by
  intro l D cs hst
  refine zMt.ofL hst (by decide +kernel) (Nat.le_of_ble_eq_true rfl) fun G hG hR hE => ?_
  refine s_X3_digest_0 hG hR hE hL hr hN hN2 hsz hn hn2 hz (fun e => ⟨by unfold zdig; rw [if_pos e], rfl⟩) (fun e => ?_)
  have hg : ∀ x, zdG I (zdS I ((((((zdL I (149 * 31 + I 0 1) N) * 31 + I 10 1) * 31) + I 10 2) * 31) + I 10 3) n * 31 + I 15 1) N = x → zdig I N n = x := fun x h => by unfold zdig; rw [if_neg e, h]
  generalize (zdS I ((((((zdL I (149 * 31 + I 0 1) N) * 31 + I 10 1) * 31) + I 10 2) * 31) + I 10 3) n * 31 + I 15 1) = d0 at hg ⊢
  have key : ∀ (d i : Nat), i + d = N → zW G F 0 0 I [(0, .ref (F.1 0)), (1, .long (zJ (zdG I d0 i))), (3, .int (zI i))] [] 76 := by
    intro d
    induction d with
    | zero =>
      intro i hi
      have e : i = N := by omega
      subst e
      exact s_X3_digest_76 (N := 0) (n := 0) hG hR hE hL hr (by omega) (fun _ => ⟨by rw [hg _ rfl], rfl⟩) (fun h => absurd h (by omega))
    | succ d ih =>
      intro i hi
      exact s_X3_digest_76 (N := 0) (n := 0) hG hR hE hL hr (by omega) (fun h => absurd h (by omega)) (fun _ => ih (i + 1) (by omega))
  exact key N 0 (by omega)
